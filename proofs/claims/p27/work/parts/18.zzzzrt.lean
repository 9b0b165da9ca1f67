/-! ===== what is fed ===== -/
def sh (w : Int64) (i : Int32) : Int64 := w >>> ((8 * i).toInt64 &&& 63)
def fcB (w : Int64) (i : Int32) : Int32 := vp_nar .byte ((sh w i).toInt32.toInt8.toInt32)
def fmB (w : Int64) (i : Int32) : Int32 := (sh w i &&& 255).toInt32
theorem and255 (u : Int64) : (u &&& 255).toInt = u.toInt % 256 := by
  have h : (u &&& 255).toBitVec.toNat = u.toBitVec.toNat % 256 := by
    rw [Int64.toBitVec_and, BitVec.toNat_and, show (255 : Int64).toBitVec.toNat = 255 by decide]
    exact Nat.and_two_pow_sub_one_eq_mod _ 8
  have e1 : (u &&& 255).toInt = Int.bmod ((u &&& 255).toBitVec.toNat) 18446744073709551616 := BitVec.toInt_eq_toNat_bmod _
  have e2 : u.toInt = Int.bmod (u.toBitVec.toNat) 18446744073709551616 := BitVec.toInt_eq_toNat_bmod _
  have hl : u.toBitVec.toNat < 18446744073709551616 := u.toBitVec.isLt
  rw [e1, e2, h]
  rw [Int.bmod, Int.bmod]
  split <;> split <;> omega
theorem nar_byte (x : Int32) : vp_nar .byte x = x.toInt8.toInt32 := rfl
theorem t8 (x : Int32) : x.toInt8.toInt32.toInt = Int.bmod x.toInt 256 := by
  rw [Int8.toInt_toInt32, Int32.toInt_toInt8]
theorem fb_rel (w : Int64) (i : Int32) : -128 ≤ (fcB w i).toInt ∧ (fcB w i).toInt ≤ 127 ∧ (fmB w i).toInt = (fcB w i).toInt % 256 := by
  have a1 : (fcB w i).toInt = Int.bmod (Int.bmod (sh w i).toInt32.toInt 256) 256 := by
    unfold fcB
    rw [nar_byte, t8, t8]
  have a2 : (sh w i).toInt32.toInt = Int.bmod (sh w i).toInt 4294967296 := Int64.toInt_toInt32 _
  have a3 : (fmB w i).toInt = Int.bmod ((sh w i).toInt % 256) 4294967296 := by
    unfold fmB
    rw [Int64.toInt_toInt32, and255]
  rw [a1, a2, a3]
  generalize (sh w i).toInt = x
  simp only [Int.bmod]
  refine ⟨?_, ?_, ?_⟩ <;> (repeat' split) <;> omega
/-- of n bytes from B on those are there whose number is above y -/
def FDI (t : Nat) (f : Int32 → Int32) (B n y : Int) (σ τ : Sg) : Prop := (∀ k : Nat, (k : Int) < B → gV τ t 0 k = gV σ t 0 k) ∧ ∀ i : Int32, y < i.toInt → i.toInt < n → gV τ t 0 (B + n - 1 - i.toInt).toNat = f i
theorem FDI.start {t : Nat} {f : Int32 → Int32} {B n y : Int} {σ : Sg} (h : n ≤ y + 1) : FDI t f B n y σ σ := ⟨fun _ _ => rfl, fun i h1 h2 => absurd h2 (by omega)⟩
theorem FDI.more {t K : Nat} {f : Int32 → Int32} {B n y y' : Int} {i0 : Int32} {σ τ υ : Sg} (h : FDI t f B n y σ τ) (hy : i0.toInt = y) (hK : (K : Int) = B + n - 1 - i0.toInt) (hn : y + 1 ≤ n) (hB : 0 ≤ B) (hy' : y' = y - 1) (c1 : gV υ t 0 K = f i0) (c2 : ∀ k, k ≠ K → gV υ t 0 k = gV τ t 0 k) : FDI t f B n y' σ υ := by
  refine ⟨fun k hk => (c2 k (by omega)).trans (h.1 k hk), fun i h1 h2 => ?_⟩
  by_cases g : i.toInt = y
  · have e : i = i0 := Int32.toInt_inj.mp (by omega)
    rw [e, show (B + n - 1 - i0.toInt).toNat = K by omega]
    exact c1
  · rw [c2 _ (by omega)]
    exact h.2 i (by omega) h2
theorem FDI.same {t : Nat} {f : Int32 → Int32} {B n y : Int} {σ τ υ : Sg} (h : FDI t f B n y σ τ) (e : ∀ k, gV υ t 0 k = gV τ t 0 k) : FDI t f B n y σ υ := ⟨fun k hk => (e k).trans (h.1 k hk), fun i h1 h2 => (e _).trans (h.2 i h1 h2)⟩
/-- the tapes of both are alike, and the latest faults -/
def RT (σ : Sg) : Prop := (∃ (T : Nat → Int) (N : Nat), TpC σ T N ∧ TpM σ T N) ∧ (gV σ 12 0 2).toInt = (gV σ 22 0 7).toInt
theorem RT.call {M : List (Nat × Nat)} {A : List Nat} {σ τ : Sg} (h : RT σ) (f : Fr M A σ τ) (hm : (M.all fun q => q.1 != 13 && q.1 != 28 && q != (12, 1) && q != (12, 2) && q != (22, 6) && q != (22, 7)) = true) (ha : (A.all fun q => q != 12 && q != 13 && q != 22 && q != 28) = true) : RT τ := by
  have hm' : ∀ q ∈ M, q.1 ≠ 13 ∧ q.1 ≠ 28 ∧ q ≠ (12, 1) ∧ q ≠ (12, 2) ∧ q ≠ (22, 6) ∧ q ≠ (22, 7) := fun q hq => by
    have := List.all_eq_true.mp hm q hq
    simpa [and_assoc] using this
  have ha' : ∀ q ∈ A, q ≠ 12 ∧ q ≠ 13 ∧ q ≠ 22 ∧ q ≠ 28 := fun q hq => by
    have := List.all_eq_true.mp ha q hq
    simpa [and_assoc] using this
  obtain ⟨⟨T, N, h1, h2⟩, h3⟩ := h
  refine ⟨⟨T, N, h1.fr f (fun q => (hm' _ q).2.2.1 rfl) (fun q => (ha' _ q).1 rfl) (fun k q => (hm' _ q).1 rfl) (fun q => (ha' _ q).2.1 rfl), h2.fr f (fun q => (hm' _ q).2.2.2.2.1 rfl) (fun q => (ha' _ q).2.2.1 rfl) (fun k q => (hm' _ q).2.1 rfl) (fun q => (ha' _ q).2.2.2 rfl)⟩, ?_⟩
  rw [f.1 12 0 2 (fun q => (hm' _ q).2.2.2.1 rfl) (fun q => (ha' _ q).1 rfl), f.1 22 0 7 (fun q => (hm' _ q).2.2.2.2.2 rfl) (fun q => (ha' _ q).2.2.1 rfl)]
  exact h3
/-- both tapes empty -/
theorem RT.empty {σ : Sg} (h1 : (gV σ 12 0 1).toInt = 0) (h2 : (gV σ 22 0 6).toInt = 0) (h3 : (gV σ 12 0 2).toInt = (gV σ 22 0 7).toInt) : RT σ := ⟨⟨fun _ => 0, 0, ⟨by rw [h1]; rfl, by decide, fun k hk => absurd hk (Nat.not_lt_zero _), fun _ _ => rfl⟩, ⟨by rw [h2]; rfl, by decide, fun k hk => absurd hk (Nat.not_lt_zero _), fun _ _ => rfl⟩⟩, h3⟩
/-- n more bytes, the same on both sides -/
theorem RT.fed {σ τ υ : Sg} {w : Int64} {n : Int} (h : RT σ) (c : FDI 13 (fcB w) (gV σ 12 0 1).toInt n (-1) σ τ) (c2 : ∀ k, gV υ 13 0 k = gV τ 13 0 k) (d2 : ∀ k, gV τ 28 0 k = gV σ 28 0 k) (d : FDI 28 (fmB w) (gV σ 22 0 6).toInt n (-1) τ υ) (e1 : (gV υ 12 0 1).toInt = (gV σ 12 0 1).toInt + n) (e2 : (gV υ 22 0 6).toInt = (gV σ 22 0 6).toInt + n) (e3 : (gV υ 12 0 2).toInt = (gV υ 22 0 7).toInt) (h0 : 1 ≤ n) (h4 : (gV σ 12 0 1).toInt + n ≤ 400) : RT υ := by
  obtain ⟨⟨T, N, h1, h2⟩, _⟩ := h
  have b1 := h1.1
  have b2 := h2.1
  have key : ∀ k : Nat, (k : Int) < (N : Int) + n → -128 ≤ (gV υ 13 0 k).toInt ∧ (gV υ 13 0 k).toInt ≤ 127 ∧ (gV υ 28 0 k).toInt = (gV υ 13 0 k).toInt % 256 := by
    intro k hk
    rw [c2]
    by_cases g : k < N
    · rw [c.1 k (by omega), d.1 k (by omega), d2]
      have q1 := h1.2.2.1 k g
      have q2 := h2.2.2.1 k g
      omega
    · have vi : -2147483648 ≤ (N : Int) + n - 1 - k ∧ (N : Int) + n - 1 - k ≤ 2147483647 := by have := h1.2.1; omega
      have ei : (Int32.ofInt ((N : Int) + n - 1 - k)).toInt = (N : Int) + n - 1 - k := Int32.toInt_ofInt_of_le (by omega) (by omega)
      have q1 := c.2 (Int32.ofInt ((N : Int) + n - 1 - k)) (by omega) (by omega)
      have q2 := d.2 (Int32.ofInt ((N : Int) + n - 1 - k)) (by omega) (by omega)
      rw [show ((gV σ 12 0 1).toInt + n - 1 - (Int32.ofInt ((N : Int) + n - 1 - k)).toInt).toNat = k by omega] at q1
      rw [show ((gV σ 22 0 6).toInt + n - 1 - (Int32.ofInt ((N : Int) + n - 1 - k)).toInt).toNat = k by omega] at q2
      rw [q1, q2]
      exact fb_rel _ _
  refine ⟨⟨fun k => if (k : Int) < (N : Int) + n then (gV υ 13 0 k).toInt % 256 else 0, ((N : Int) + n).toNat, ⟨by omega, by omega, fun k hk => ?_, fun k hk => if_neg (by omega)⟩, ⟨by omega, by omega, fun k hk => ?_, fun k hk => if_neg (by omega)⟩⟩, e3⟩
  · have q := key k (by omega)
    exact ⟨q.1, q.2.1, if_pos (by omega)⟩
  · have q := key k (by omega)
    exact q.2.2.trans (if_pos (by omega)).symm
theorem FDI.start0 {t : Nat} {f : Int32 → Int32} {B n y : Int} {σ τ : Sg} (h : n ≤ y + 1) (e : ∀ k, gV τ t 0 k = gV σ t 0 k) : FDI t f B n y σ τ := ⟨fun k _ => e k, fun i h1 h2 => absurd h2 (by omega)⟩
abbrev MS_X6_appendT : List (Nat × Nat) := [(12, 1)]
abbrev AS_X6_appendT : List Nat := [13]
set_option maxHeartbeats 4000000 in
set_option maxRecDepth 100000 in
theorem c_X6_appendT (l : Launch) (G : Gt) (σ : Sg) (a1 : Int32) (hI : Inv σ) : Mc l G yX6_append cX6_append 2 none 0 0 0 0 [.ref (G.1 12 0), .int a1] σ (PV fun τ => Inv τ ∧ Fr MS_X6_appendT AS_X6_appendT σ τ ∧ ((gV σ 12 0 1).toInt < 400 → (gV τ 12 0 1).toInt = (gV σ 12 0 1).toInt + 1 ∧ gV τ 13 0 (gV σ 12 0 1).toInt.toNat = vp_nar .byte a1 ∧ ∀ k, k ≠ (gV σ 12 0 1).toInt.toNat → gV τ 13 0 k = gV σ 13 0 k)) := by
  refine Mc.of (L0 := [some (.ref (G.1 12 0)), some (.int a1)]) (by decide) (Nat.le_of_ble_eq_true rfl) rfl ?_
  intro p e s m args below meth c C hr hlk
  have C : Cx p s m args c cX6_append 2 "LeanTower$Reader" := C
  have k0 : (0 : Int32).toInt = 0 := by decide
  have k1 : (1 : Int32).toInt = 1 := by decide
  have u1 : IV (gV σ 12 0 1) 0 400 := hI.1 12 0 1
  refine m_aload_n C dX6_append_0 rfl rfl ?_
  refine g_12_1 C q1_38 dX6_append_1 ?_
  refine m_eqs (w := (gV σ 12 0 1)) rfl ?_
  refine m_sipush (v := 400) C dX6_append_4 (by decide) ?_
  refine m_icmp_ge (tgt := 30) C dX6_append_7 (by decide) (fun c2 => ?_) (fun c2 => ?_)
  · have f3 : 400 ≤ (gV σ 12 0 1).toInt := by
      have q : _ := c2
      simp only [ti_nle, ti_nlt, ti_le, ti_lt, ti_eq, ti_ne, Classical.not_not, kt_400] at q
      omega
    have b4 : IV (gV σ 12 0 1) 400 400 := ⟨by have q1 := kc_400; have q2 := u1; omega, by have q1 := kc_400; have q2 := u1; omega⟩
    exact m_vret C hr hlk (by decide) (by decide) dX6_append_30 ⟨rfl, hI, Fr.rf, (fun h => absurd h (by omega))⟩
  · have f5 : (gV σ 12 0 1).toInt < 400 := by
      have q : _ := c2
      simp only [ti_nle, ti_nlt, ti_le, ti_lt, ti_eq, ti_ne, Classical.not_not, kt_400] at q
      omega
    have b6 : IV (gV σ 12 0 1) 0 399 := ⟨by have q1 := u1; have q2 := kc_400; omega, by have q1 := u1; have q2 := kc_400; omega⟩
    refine m_aload_n C dX6_append_10 rfl rfl ?_
    refine g_12_0 C q1_37 dX6_append_11 ?_
    refine m_aload_n C dX6_append_14 rfl rfl ?_
    refine g_12_1 C q1_38 dX6_append_15 ?_
    refine m_eqs (w := (gV σ 12 0 1)) rfl ?_
    refine m_iload_n C dX6_append_18 rfl rfl ?_
    refine as_13 C b6 (by decide) rfl dX6_append_19 ?_
    obtain ⟨x7, ex7⟩ : ∃ y : Int32, y = vp_nar .byte a1 := ⟨_, rfl⟩
    rw [← ex7]
    refine m_tops (fun τ8 eτ8 => ?_)
    have i9 : Inv τ8 := eτ8 ▸ Inv.putF hI (by decide) rfl
    have f10 : Fr MS_X6_appendT AS_X6_appendT σ τ8 := eτ8 ▸ Fr.put (Fr.rf) (Or.inr (by decide))
    refine m_aload_n C dX6_append_20 rfl rfl ?_
    refine m_dup C dX6_append_21 rfl ?_
    refine g_12_1 C q1_38 dX6_append_22 ?_
    refine m_eqs (w := (gV σ 12 0 1)) (show gV τ8 12 0 1 = (gV σ 12 0 1) from gV_put eτ8 rfl) ?_
    refine m_iconst (v := 1) C dX6_append_25 (by decide) ?_
    refine m_iadd C dX6_append_26 ?_
    refine m_topi (fun x11 ex11 => ?_)
    have tx11 : x11.toInt = (gV σ 12 0 1).toInt + 1 := by rw [ex11, ti_addv b6 kc_1 (by decide), kt_1]
    have b12 : IV x11 1 400 := by rw [ex11]; exact iv_add b6 kc_1 (by decide)
    refine p_12_1 C q1_38 dX6_append_27 ?_
    refine m_tops (fun τ13 eτ13 => ?_)
    have i14 : Inv τ13 := eτ13 ▸ Inv.put i9 (by decide) (iv_wk b12 (by decide))
    have f15 : Fr MS_X6_appendT AS_X6_appendT σ τ13 := eτ13 ▸ Fr.put (f10) (Or.inl (by decide))
    have q16 : (gV τ13 12 0 1).toInt = x11.toInt := congrArg Int32.toInt (show (gV τ13 12 0 1) = x11 from (show gV τ13 12 0 1 = x11 from gV_put eτ13 (gV_self _ _ _ _ _)))
    exact m_vret C hr hlk (by decide) (by decide) dX6_append_30 ⟨rfl, i14, f15, (fun h => ⟨by omega, by rw [gV_putn eτ13 (Or.inl (by decide)), eτ8, gV_self, ex7], fun k hk => by rw [gV_putn eτ13 (Or.inl (by decide)), gV_putn eτ8 (Or.inr (Or.inr hk))]⟩)⟩

abbrev MS_X11_feedT : List (Nat × Nat) := [(12, 1)]
abbrev AS_X11_feedT : List Nat := [13]
set_option maxHeartbeats 4000000 in
set_option maxRecDepth 100000 in
theorem c_X11_feedT (l : Launch) (G : Gt) (σ : Sg) (a1 : Int64) (a2 : Int32) (hI : Inv σ) : Mc l G yX11_feed cX11_feed 5 (some .int) 1 21 0 0 [.ref (G.1 0 0), .long a1, .int a2] σ (PI fun r τ => Inv τ ∧ Fr MS_X11_feedT AS_X11_feedT σ τ ∧ IV r (-1000003) 400 ∧ (((a2.toInt < 1 ∨ 8 < a2.toInt) ∧ r.toInt = -1000001 ∧ (gV τ 12 0 1).toInt = (gV σ 12 0 1).toInt ∧ ∀ k, gV τ 13 0 k = gV σ 13 0 k) ∨ ((1 ≤ a2.toInt ∧ a2.toInt ≤ 8) ∧ 400 < (gV σ 12 0 1).toInt + a2.toInt ∧ r.toInt = -1000003 ∧ (gV τ 12 0 1).toInt = (gV σ 12 0 1).toInt ∧ ∀ k, gV τ 13 0 k = gV σ 13 0 k) ∨ ((1 ≤ a2.toInt ∧ a2.toInt ≤ 8) ∧ (gV σ 12 0 1).toInt + a2.toInt ≤ 400 ∧ r.toInt = (gV σ 12 0 1).toInt + a2.toInt ∧ (gV τ 12 0 1).toInt = (gV σ 12 0 1).toInt + a2.toInt ∧ FDI 13 (fcB a1) (gV σ 12 0 1).toInt a2.toInt (-1) σ τ))) := by
  refine Mc.of (L0 := [some (.ref (G.1 0 0)), some (.long a1), none, some (.int a2), none]) (by decide) (Nat.le_of_ble_eq_true rfl) rfl ?_
  intro p e s m args below meth c C hr hlk
  have C : Cx p s m args c cX11_feed 5 "LeanTower" := C
  have k0 : (0 : Int32).toInt = 0 := by decide
  have k1 : (1 : Int32).toInt = 1 := by decide
  have J37 : ∀ (n : Nat) (τ : Sg) (y4 : Int32), Inv τ → Fr MS_X11_feedT AS_X11_feedT σ τ → IV a2 1 8 → IV y4 (-1) 7 → ((gV τ 12 0 1).toInt + y4.toInt + 1 = (gV σ 12 0 1).toInt + a2.toInt) → (((gV σ 12 0 1).toInt + a2.toInt ≤ 400 ∧ 1 ≤ a2.toInt ∧ a2.toInt ≤ 8 ∧ -1 ≤ y4.toInt ∧ y4.toInt < a2.toInt ∧ 0 ≤ (gV σ 12 0 1).toInt)) → (FDI 13 (fcB a1) (gV σ 12 0 1).toInt a2.toInt y4.toInt σ τ) → (y4.toInt - (-1)).toNat < n → MW p l e { frames := 1, cells := 0, slots := 0, locals := 21 } s m args below meth c (MQ below (QP G (PI fun r τ => Inv τ ∧ Fr MS_X11_feedT AS_X11_feedT σ τ ∧ IV r (-1000003) 400 ∧ (((a2.toInt < 1 ∨ 8 < a2.toInt) ∧ r.toInt = -1000001 ∧ (gV τ 12 0 1).toInt = (gV σ 12 0 1).toInt ∧ ∀ k, gV τ 13 0 k = gV σ 13 0 k) ∨ ((1 ≤ a2.toInt ∧ a2.toInt ≤ 8) ∧ 400 < (gV σ 12 0 1).toInt + a2.toInt ∧ r.toInt = -1000003 ∧ (gV τ 12 0 1).toInt = (gV σ 12 0 1).toInt ∧ ∀ k, gV τ 13 0 k = gV σ 13 0 k) ∨ ((1 ≤ a2.toInt ∧ a2.toInt ≤ 8) ∧ (gV σ 12 0 1).toInt + a2.toInt ≤ 400 ∧ r.toInt = (gV σ 12 0 1).toInt + a2.toInt ∧ (gV τ 12 0 1).toInt = (gV σ 12 0 1).toInt + a2.toInt ∧ FDI 13 (fcB a1) (gV σ 12 0 1).toInt a2.toInt (-1) σ τ)))) args s 0 0 (aG G)) 5 G 0 0 37 [some (.ref (G.1 0 0)), some (.long a1), none, none, some (.int y4)] [] τ := by
    intro n
    induction n with
    | zero => intro τ y4 iτ fτ b_a2 b_y4 n1 n2 nF hm; exact absurd hm (Nat.not_lt_zero _)
    | succ n ih37 =>
      intro τ y4 iτ fτ b_a2 b_y4 n1 n2 nF hm37
      have u3 : IV (gV τ 12 0 1) 0 400 := iτ.1 12 0 1
      refine m_iload C dX11_feed_37 rfl ?_
      refine m_if_lt (tgt := 64) C dX11_feed_39 (by decide) (fun c4 => ?_) (fun c4 => ?_)
      · have f5 : y4.toInt < 0 := by
          have q : _ := c4
          simp only [ti_nle, ti_nlt, ti_le, ti_lt, ti_eq, ti_ne, Classical.not_not, kt_0] at q
          omega
        have b6 : IV y4 (-1) (-1) := ⟨by have q1 := b_y4; have q2 := kc_0; omega, by have q1 := b_y4; have q2 := kc_0; omega⟩
        refine m_aload_n C dX11_feed_64 rfl rfl ?_
        refine g_0_1 C q1_187 dX11_feed_65 ?_
        refine g_12_1 C q1_39 dX11_feed_68 ?_
        refine m_eqs (w := (gV τ 12 0 1)) rfl ?_
        exact m_iret C hr hlk (by decide) (by decide) dX11_feed_71 ⟨_, rfl, iτ, fτ, (iv_wk u3 (by decide)), (Or.inr (Or.inr ⟨by omega, by omega, by omega, by omega, by rw [show (-1 : Int) = y4.toInt by omega]; exact nF⟩))⟩
      · have f7 : 0 ≤ y4.toInt := by
          have q : _ := c4
          simp only [ti_nle, ti_nlt, ti_le, ti_lt, ti_eq, ti_ne, Classical.not_not, kt_0] at q
          omega
        have b8 : IV y4 0 7 := ⟨by have q1 := kc_0; have q2 := b_y4; omega, by have q1 := kc_0; have q2 := b_y4; omega⟩
        refine m_aload_n C dX11_feed_42 rfl rfl ?_
        refine g_0_1 C q1_187 dX11_feed_43 ?_
        refine m_lload_n C dX11_feed_46 rfl rfl ?_
        refine m_bipush (v := 8) C dX11_feed_47 (by decide) ?_
        refine m_iload C dX11_feed_49 rfl ?_
        refine m_imul C dX11_feed_51 ?_
        refine m_topi (fun x9 ex9 => ?_)
        have tx9 : x9.toInt = 8 * y4.toInt := by rw [ex9, ti_mulv kc_8 b8 (by decide), kt_8]
        have b10 : IV x9 0 56 := by rw [ex9]; exact iv_mul kc_8 b8 (by decide)
        refine m_lshr C dX11_feed_52 ?_
        refine m_topl (fun w11 ew11 => ?_)
        refine m_l2i C dX11_feed_53 ?_
        refine m_topi (fun x12 ex12 => ?_)
        refine m_i2b C dX11_feed_54 ?_
        refine m_topi (fun x13 ex13 => ?_)
        refine m_callV (n := 1) (ci := 5) (st := []) C (c_X6_appendT l G τ (x13) iτ ) (by decide) (by decide) rfl rfl rfl q2_47 q2_44 q2_45 q2_46 q1_2 (by decide +kernel) rfl (by decide) (by decide) rfl (Nat.le_of_ble_eq_true rfl) dX11_feed_55 ?_
        rintro _ τ14 ⟨rfl, i15, f16, h20⟩
        have g19 : Fr MS_X11_feedT AS_X11_feedT σ τ14 := Fr.call (fτ) f16 (by decide)
        have u21 : IV (gV τ14 12 0 1) 0 400 := i15.1 12 0 1
        show MW p l e _ s m args below meth c _ 5 G 0 0 58 [some (.ref (G.1 0 0)), some (.long a1), none, none, some (.int y4)] [] τ14
        obtain ⟨x22, ex22⟩ : ∃ y : Int32, y = y4 + (-1) := ⟨_, rfl⟩
        have tx22 : x22.toInt = y4.toInt + (-1) := by rw [ex22, ti_addv b8 kc_m1 (by decide), kt_m1]
        have b23 : IV x22 (-1) 6 := by rw [ex22]; exact iv_add b8 kc_m1 (by decide)
        refine m_iinc (v := x22) (L1 := [some (.ref (G.1 0 0)), some (.long a1), none, none, some (.int x22)]) C dX11_feed_58 rfl (by rw [ex22]; rfl) (by decide) rfl rfl ?_
        refine m_goto (tgt := 37) C dX11_feed_61 (by decide) ?_
        exact ih37 τ14 x22 i15 g19 b_a2 (iv_wk b23 (by decide)) (by omega) (by omega) (nF.more (i0 := y4) (K := (gV τ 12 0 1).toInt.toNat) rfl (by omega) (by omega) (by omega) (by omega) (by rw [(h20 (by omega)).2.1, ex13, ex12, ew11, ex9]; rfl) (h20 (by omega)).2.2) (by have q := hm37; omega)
  have u24 : IV (gV σ 12 0 1) 0 400 := hI.1 12 0 1
  refine m_iload_n C dX11_feed_0 rfl rfl ?_
  refine m_iconst (v := 1) C dX11_feed_1 (by decide) ?_
  refine m_icmp_lt (tgt := 11) C dX11_feed_2 (by decide) (fun c25 => ?_) (fun c25 => ?_)
  · have f26 : a2.toInt < 1 := by
      have q : _ := c25
      simp only [ti_nle, ti_nlt, ti_le, ti_lt, ti_eq, ti_ne, Classical.not_not, kt_1] at q
      omega
    have b27 : IV a2 (-2147483648) 0 := ⟨by have q1 := (iv_any a2); have q2 := kc_1; omega, by have q1 := (iv_any a2); have q2 := kc_1; omega⟩
    refine m_ldc (v := (-1000001)) C dX11_feed_11 q1_234 ?_
    exact m_iret C hr hlk (by decide) (by decide) dX11_feed_13 ⟨_, rfl, hI, Fr.rf, (iv_wk kc_m1000001 (by decide)), (Or.inl ⟨by omega, by have q := kt_m1000001; omega, by omega, fun _ => rfl⟩)⟩
  · have f28 : 1 ≤ a2.toInt := by
      have q : _ := c25
      simp only [ti_nle, ti_nlt, ti_le, ti_lt, ti_eq, ti_ne, Classical.not_not, kt_1] at q
      omega
    have b29 : IV a2 1 2147483647 := ⟨by have q1 := kc_1; have q2 := (iv_any a2); omega, by have q1 := kc_1; have q2 := (iv_any a2); omega⟩
    refine m_iload_n C dX11_feed_5 rfl rfl ?_
    refine m_bipush (v := 8) C dX11_feed_6 (by decide) ?_
    refine m_icmp_le (tgt := 14) C dX11_feed_8 (by decide) (fun c30 => ?_) (fun c30 => ?_)
    · have f31 : a2.toInt ≤ 8 := by
        have q : _ := c30
        simp only [ti_nle, ti_nlt, ti_le, ti_lt, ti_eq, ti_ne, Classical.not_not, kt_8] at q
        omega
      have b32 : IV a2 1 8 := ⟨by have q1 := b29; have q2 := kc_8; omega, by have q1 := b29; have q2 := kc_8; omega⟩
      refine m_aload_n C dX11_feed_14 rfl rfl ?_
      refine g_0_1 C q1_187 dX11_feed_15 ?_
      refine g_12_1 C q1_39 dX11_feed_18 ?_
      refine m_eqs (w := (gV σ 12 0 1)) rfl ?_
      refine m_iload_n C dX11_feed_21 rfl rfl ?_
      refine m_iadd C dX11_feed_22 ?_
      refine m_topi (fun x33 ex33 => ?_)
      have tx33 : x33.toInt = (gV σ 12 0 1).toInt + a2.toInt := by rw [ex33, ti_addv u24 b32 (by decide)]
      have b34 : IV x33 1 408 := by rw [ex33]; exact iv_add u24 b32 (by decide)
      refine m_sipush (v := 400) C dX11_feed_23 (by decide) ?_
      refine m_icmp_le (tgt := 32) C dX11_feed_26 (by decide) (fun c35 => ?_) (fun c35 => ?_)
      · have f36 : x33.toInt ≤ 400 := by
          have q : _ := c35
          simp only [ti_nle, ti_nlt, ti_le, ti_lt, ti_eq, ti_ne, Classical.not_not, kt_400] at q
          omega
        have b37 : IV x33 1 400 := ⟨by have q1 := b34; have q2 := kc_400; omega, by have q1 := b34; have q2 := kc_400; omega⟩
        refine m_iload_n C dX11_feed_32 rfl rfl ?_
        refine m_iconst (v := 1) C dX11_feed_33 (by decide) ?_
        refine m_isub C dX11_feed_34 ?_
        refine m_topi (fun x38 ex38 => ?_)
        have tx38 : x38.toInt = a2.toInt - 1 := by rw [ex38, ti_subv b32 kc_1 (by decide), kt_1]
        have b39 : IV x38 0 7 := by rw [ex38]; exact iv_sub b32 kc_1 (by decide)
        refine m_istore (L1 := [some (.ref (G.1 0 0)), some (.long a1), none, some (.int a2), some (.int x38)]) C dX11_feed_35 (by decide) rfl rfl ?_
        refine m_sub (L1 := [some (.ref (G.1 0 0)), some (.long a1), none, none, some (.int x38)]) ⟨rfl, ⟨rfl, ⟨rfl, trivial⟩⟩⟩ ?_
        exact J37 ((x38.toInt - (-1)).toNat + 1) σ x38 hI Fr.rf b32 (iv_wk b39 (by decide)) (by omega) (by omega) (FDI.start (by omega)) (Nat.lt_succ_self _)
      · have f40 : 400 < x33.toInt := by
          have q : _ := c35
          simp only [ti_nle, ti_nlt, ti_le, ti_lt, ti_eq, ti_ne, Classical.not_not, kt_400] at q
          omega
        have b41 : IV x33 401 408 := ⟨by have q1 := kc_400; have q2 := b34; omega, by have q1 := kc_400; have q2 := b34; omega⟩
        refine m_ldc (v := (-1000003)) C dX11_feed_29 q2_43 ?_
        exact m_iret C hr hlk (by decide) (by decide) dX11_feed_31 ⟨_, rfl, hI, Fr.rf, (iv_wk kc_m1000003 (by decide)), (Or.inr (Or.inl ⟨by omega, by omega, by have q := kt_m1000003; omega, by omega, fun _ => rfl⟩))⟩
    · have f42 : 8 < a2.toInt := by
        have q : _ := c30
        simp only [ti_nle, ti_nlt, ti_le, ti_lt, ti_eq, ti_ne, Classical.not_not, kt_8] at q
        omega
      have b43 : IV a2 9 2147483647 := ⟨by have q1 := kc_8; have q2 := b29; omega, by have q1 := kc_8; have q2 := b29; omega⟩
      refine m_ldc (v := (-1000001)) C dX11_feed_11 q1_234 ?_
      exact m_iret C hr hlk (by decide) (by decide) dX11_feed_13 ⟨_, rfl, hI, Fr.rf, (iv_wk kc_m1000001 (by decide)), (Or.inl ⟨by omega, by have q := kt_m1000001; omega, by omega, fun _ => rfl⟩)⟩

abbrev MS_X12_feedT : List (Nat × Nat) := [(22, 6)]
abbrev AS_X12_feedT : List Nat := [28]
set_option maxHeartbeats 4000000 in
set_option maxRecDepth 100000 in
theorem c_X12_feedT (l : Launch) (G : Gt) (σ : Sg) (a1 : Int64) (a2 : Int32) (hI : Inv σ) : Mc l G yX12_feed cX12_feed 5 (some .int) 1 25 0 0 [.ref (G.1 22 0), .long a1, .int a2] σ (PI fun r τ => Inv τ ∧ Fr MS_X12_feedT AS_X12_feedT σ τ ∧ IV r (-1000003) 400 ∧ (((a2.toInt < 1 ∨ 8 < a2.toInt) ∧ r.toInt = -1000001 ∧ (gV τ 22 0 6).toInt = (gV σ 22 0 6).toInt ∧ ∀ k, gV τ 28 0 k = gV σ 28 0 k) ∨ ((1 ≤ a2.toInt ∧ a2.toInt ≤ 8) ∧ 400 < (gV σ 22 0 6).toInt + a2.toInt ∧ r.toInt = -1000003 ∧ (gV τ 22 0 6).toInt = (gV σ 22 0 6).toInt ∧ ∀ k, gV τ 28 0 k = gV σ 28 0 k) ∨ ((1 ≤ a2.toInt ∧ a2.toInt ≤ 8) ∧ (gV σ 22 0 6).toInt + a2.toInt ≤ 400 ∧ r.toInt = (gV σ 22 0 6).toInt + a2.toInt ∧ (gV τ 22 0 6).toInt = (gV σ 22 0 6).toInt + a2.toInt ∧ FDI 28 (fmB a1) (gV σ 22 0 6).toInt a2.toInt (-1) σ τ))) := by
  refine Mc.of (L0 := [some (.ref (G.1 22 0)), some (.long a1), none, some (.int a2), none]) (by decide) (Nat.le_of_ble_eq_true rfl) rfl ?_
  intro p e s m args below meth c C hr hlk
  have C : Cx p s m args c cX12_feed 5 "LeanTowerModel" := C
  have k0 : (0 : Int32).toInt = 0 := by decide
  have k1 : (1 : Int32).toInt = 1 := by decide
  have J35 : ∀ (n : Nat) (τ : Sg) (y4 : Int32), Inv τ → Fr MS_X12_feedT AS_X12_feedT σ τ → IV a2 1 8 → IV y4 (-1) 7 → ((gV τ 22 0 6).toInt + y4.toInt ≤ 399) → ((gV τ 22 0 6).toInt + y4.toInt + 1 = (gV σ 22 0 6).toInt + a2.toInt) → (((gV σ 22 0 6).toInt + a2.toInt ≤ 400 ∧ 1 ≤ a2.toInt ∧ a2.toInt ≤ 8 ∧ -1 ≤ y4.toInt ∧ y4.toInt < a2.toInt ∧ 0 ≤ (gV σ 22 0 6).toInt)) → (FDI 28 (fmB a1) (gV σ 22 0 6).toInt a2.toInt y4.toInt σ τ) → (y4.toInt - (-1)).toNat < n → MW p l e { frames := 1, cells := 0, slots := 0, locals := 25 } s m args below meth c (MQ below (QP G (PI fun r τ => Inv τ ∧ Fr MS_X12_feedT AS_X12_feedT σ τ ∧ IV r (-1000003) 400 ∧ (((a2.toInt < 1 ∨ 8 < a2.toInt) ∧ r.toInt = -1000001 ∧ (gV τ 22 0 6).toInt = (gV σ 22 0 6).toInt ∧ ∀ k, gV τ 28 0 k = gV σ 28 0 k) ∨ ((1 ≤ a2.toInt ∧ a2.toInt ≤ 8) ∧ 400 < (gV σ 22 0 6).toInt + a2.toInt ∧ r.toInt = -1000003 ∧ (gV τ 22 0 6).toInt = (gV σ 22 0 6).toInt ∧ ∀ k, gV τ 28 0 k = gV σ 28 0 k) ∨ ((1 ≤ a2.toInt ∧ a2.toInt ≤ 8) ∧ (gV σ 22 0 6).toInt + a2.toInt ≤ 400 ∧ r.toInt = (gV σ 22 0 6).toInt + a2.toInt ∧ (gV τ 22 0 6).toInt = (gV σ 22 0 6).toInt + a2.toInt ∧ FDI 28 (fmB a1) (gV σ 22 0 6).toInt a2.toInt (-1) σ τ)))) args s 0 0 (aG G)) 5 G 0 0 35 [some (.ref (G.1 22 0)), some (.long a1), none, none, some (.int y4)] [] τ := by
    intro n
    induction n with
    | zero => intro τ y4 iτ fτ b_a2 b_y4 n1 n2 n3 nF hm; exact absurd hm (Nat.not_lt_zero _)
    | succ n ih35 =>
      intro τ y4 iτ fτ b_a2 b_y4 n1 n2 n3 nF hm35
      have u4 : IV (gV τ 22 0 6) 0 400 := iτ.1 22 0 6
      refine m_iload C dX12_feed_35 rfl ?_
      refine m_if_lt (tgt := 77) C dX12_feed_37 (by decide) (fun c5 => ?_) (fun c5 => ?_)
      · have f6 : y4.toInt < 0 := by
          have q : _ := c5
          simp only [ti_nle, ti_nlt, ti_le, ti_lt, ti_eq, ti_ne, Classical.not_not, kt_0] at q
          omega
        have b7 : IV y4 (-1) (-1) := ⟨by have q1 := b_y4; have q2 := kc_0; omega, by have q1 := b_y4; have q2 := kc_0; omega⟩
        refine m_aload_n C dX12_feed_77 rfl rfl ?_
        refine g_22_6 C q4_122 dX12_feed_78 ?_
        refine m_eqs (w := (gV τ 22 0 6)) rfl ?_
        exact m_iret C hr hlk (by decide) (by decide) dX12_feed_81 ⟨_, rfl, iτ, fτ, (iv_wk u4 (by decide)), (Or.inr (Or.inr ⟨by omega, by omega, by omega, by omega, by rw [show (-1 : Int) = y4.toInt by omega]; exact nF⟩))⟩
      · have f8 : 0 ≤ y4.toInt := by
          have q : _ := c5
          simp only [ti_nle, ti_nlt, ti_le, ti_lt, ti_eq, ti_ne, Classical.not_not, kt_0] at q
          omega
        have b9 : IV y4 0 7 := ⟨by have q1 := kc_0; have q2 := b_y4; omega, by have q1 := kc_0; have q2 := b_y4; omega⟩
        refine m_aload_n C dX12_feed_40 rfl rfl ?_
        refine g_22_5 C q4_121 dX12_feed_41 ?_
        refine m_aload_n C dX12_feed_44 rfl rfl ?_
        refine g_22_6 C q4_122 dX12_feed_45 ?_
        refine m_eqs (w := (gV τ 22 0 6)) rfl ?_
        refine m_lload_n C dX12_feed_48 rfl rfl ?_
        refine m_bipush (v := 8) C dX12_feed_49 (by decide) ?_
        refine m_iload C dX12_feed_51 rfl ?_
        refine m_imul C dX12_feed_53 ?_
        refine m_topi (fun x10 ex10 => ?_)
        have tx10 : x10.toInt = 8 * y4.toInt := by rw [ex10, ti_mulv kc_8 b9 (by decide), kt_8]
        have b11 : IV x10 0 56 := by rw [ex10]; exact iv_mul kc_8 b9 (by decide)
        refine m_lshr C dX12_feed_54 ?_
        refine m_topl (fun w12 ew12 => ?_)
        refine m_ldc2 (v := 255) C dX12_feed_55 q4_223 ?_
        refine m_land C dX12_feed_58 ?_
        refine m_topl (fun w13 ew13 => ?_)
        refine m_l2i C dX12_feed_59 ?_
        refine m_topi (fun x14 ex14 => ?_)
        have b15 : IV (gV τ 22 0 6) 0 399 := ⟨by have q1 := u4; omega, by have q1 := u4; omega⟩
        refine as_28 C b15 (by decide) rfl dX12_feed_60 ?_
        refine m_tops (fun τ16 eτ16 => ?_)
        have i17 : Inv τ16 := eτ16 ▸ Inv.putF iτ (by decide) rfl
        have f18 : Fr MS_X12_feedT AS_X12_feedT σ τ16 := eτ16 ▸ Fr.put (fτ) (Or.inr (by decide))
        refine m_aload_n C dX12_feed_61 rfl rfl ?_
        refine m_dup C dX12_feed_62 rfl ?_
        refine g_22_6 C q4_122 dX12_feed_63 ?_
        refine m_eqs (w := (gV τ 22 0 6)) (show gV τ16 22 0 6 = (gV τ 22 0 6) from gV_put eτ16 rfl) ?_
        refine m_iconst (v := 1) C dX12_feed_66 (by decide) ?_
        refine m_iadd C dX12_feed_67 ?_
        refine m_topi (fun x19 ex19 => ?_)
        have tx19 : x19.toInt = (gV τ 22 0 6).toInt + 1 := by rw [ex19, ti_addv b15 kc_1 (by decide), kt_1]
        have b20 : IV x19 1 400 := by rw [ex19]; exact iv_add b15 kc_1 (by decide)
        refine p_22_6 C q4_122 dX12_feed_68 ?_
        refine m_tops (fun τ21 eτ21 => ?_)
        have i22 : Inv τ21 := eτ21 ▸ Inv.put i17 (by decide) (iv_wk b20 (by decide))
        have f23 : Fr MS_X12_feedT AS_X12_feedT σ τ21 := eτ21 ▸ Fr.put (f18) (Or.inl (by decide))
        obtain ⟨x24, ex24⟩ : ∃ y : Int32, y = y4 + (-1) := ⟨_, rfl⟩
        have tx24 : x24.toInt = y4.toInt + (-1) := by rw [ex24, ti_addv b9 kc_m1 (by decide), kt_m1]
        have b25 : IV x24 (-1) 6 := by rw [ex24]; exact iv_add b9 kc_m1 (by decide)
        refine m_iinc (v := x24) (L1 := [some (.ref (G.1 22 0)), some (.long a1), none, none, some (.int x24)]) C dX12_feed_71 rfl (by rw [ex24]; rfl) (by decide) rfl rfl ?_
        refine m_goto (tgt := 35) C dX12_feed_74 (by decide) ?_
        have q26 : (gV τ21 22 0 6).toInt = x19.toInt := congrArg Int32.toInt (show (gV τ21 22 0 6) = x19 from (show gV τ21 22 0 6 = x19 from gV_put eτ21 (gV_self _ _ _ _ _)))
        exact ih35 τ21 x24 i22 f23 b_a2 (iv_wk b25 (by decide)) (by omega) (by omega) (by omega) (nF.more (i0 := y4) (K := (gV τ 22 0 6).toInt.toNat) rfl (by omega) (by omega) (by omega) (by omega) (by rw [gV_putn eτ21 (Or.inl (by decide)), eτ16, gV_self, ex14, ew13, ew12, ex10]; rfl) (fun k hk => by rw [gV_putn eτ21 (Or.inl (by decide)), gV_putn eτ16 (Or.inr (Or.inr hk))])) (by have q := hm35; omega)
  have u27 : IV (gV σ 22 0 6) 0 400 := hI.1 22 0 6
  refine m_iload_n C dX12_feed_0 rfl rfl ?_
  refine m_i2l C dX12_feed_1 ?_
  refine m_lconst (v := 1) C dX12_feed_2 (by decide) ?_
  refine m_ldc2 (v := 8) C dX12_feed_3 q4_221 ?_
  refine m_callS (n := 3) (st := []) C (c_X12_in l G σ ((a2 : Int32).toInt64) (1) (8) hI ) q4_190 q4_188 q4_189 q1_7 (by decide +kernel) rfl (by decide) (by decide) rfl (Nat.le_of_ble_eq_true rfl) dX12_feed_6 ?_
  rintro _ τ28 ⟨x31, rfl, i29, f30, b32, h34⟩
  have g33 : Fr MS_X12_feedT AS_X12_feedT σ τ28 := Fr.call (Fr.rf) f30 (by decide)
  have q35 : (gV τ28 22 0 6).toInt = (gV σ 22 0 6).toInt := congrArg Int32.toInt (show (gV τ28 22 0 6) = (gV σ 22 0 6) from (show gV τ28 22 0 6 = (gV σ 22 0 6) from (f30.1 22 0 (6) (by decide) (by decide)).trans rfl))
  have f36 := tl_i a2
  have f37 := kl_1
  have f38 := kl_8
  rcases h34 with ⟨h34_0, h34_1, h34_2⟩ | ⟨h34_0, h34_1⟩
  · skip
    have b39 : IV x31 1 1 := ⟨by omega, by omega⟩
    show MW p l e _ s m args below meth c _ 5 G 0 0 9 [some (.ref (G.1 22 0)), some (.long a1), none, some (.int a2), none] [.int x31] τ28
    refine m_if_ne (tgt := 15) C dX12_feed_9 (by decide) (fun c40 => ?_) (fun c40 => ?_)
    · have f41 : x31.toInt ≠ 0 := by
        have q : _ := c40
        simp only [ti_nle, ti_nlt, ti_le, ti_lt, ti_eq, ti_ne, Classical.not_not, kt_0] at q
        omega
      have b42 : IV a2 1 8 := ⟨by have q1 := (iv_any a2); omega, by have q1 := (iv_any a2); omega⟩
      refine m_aload_n C dX12_feed_15 rfl rfl ?_
      refine g_22_6 C q4_122 dX12_feed_16 ?_
      refine m_eqs (w := (gV σ 22 0 6)) (show gV τ28 22 0 6 = (gV σ 22 0 6) from (f30.1 22 0 (6) (by decide) (by decide)).trans rfl) ?_
      refine m_iload_n C dX12_feed_19 rfl rfl ?_
      refine m_iadd C dX12_feed_20 ?_
      refine m_topi (fun x43 ex43 => ?_)
      have tx43 : x43.toInt = (gV σ 22 0 6).toInt + a2.toInt := by rw [ex43, ti_addv u27 b42 (by decide)]
      have b44 : IV x43 1 408 := by rw [ex43]; exact iv_add u27 b42 (by decide)
      refine m_sipush (v := 400) C dX12_feed_21 (by decide) ?_
      refine m_icmp_le (tgt := 30) C dX12_feed_24 (by decide) (fun c45 => ?_) (fun c45 => ?_)
      · have f46 : x43.toInt ≤ 400 := by
          have q : _ := c45
          simp only [ti_nle, ti_nlt, ti_le, ti_lt, ti_eq, ti_ne, Classical.not_not, kt_400] at q
          omega
        have b47 : IV x43 1 400 := ⟨by have q1 := b44; have q2 := kc_400; omega, by have q1 := b44; have q2 := kc_400; omega⟩
        refine m_iload_n C dX12_feed_30 rfl rfl ?_
        refine m_iconst (v := 1) C dX12_feed_31 (by decide) ?_
        refine m_isub C dX12_feed_32 ?_
        refine m_topi (fun x48 ex48 => ?_)
        have tx48 : x48.toInt = a2.toInt - 1 := by rw [ex48, ti_subv b42 kc_1 (by decide), kt_1]
        have b49 : IV x48 0 7 := by rw [ex48]; exact iv_sub b42 kc_1 (by decide)
        refine m_istore (L1 := [some (.ref (G.1 22 0)), some (.long a1), none, some (.int a2), some (.int x48)]) C dX12_feed_33 (by decide) rfl rfl ?_
        refine m_sub (L1 := [some (.ref (G.1 22 0)), some (.long a1), none, none, some (.int x48)]) ⟨rfl, ⟨rfl, ⟨rfl, trivial⟩⟩⟩ ?_
        exact J35 ((x48.toInt - (-1)).toNat + 1) τ28 x48 i29 g33 b42 (iv_wk b49 (by decide)) (by omega) (by omega) (by omega) (FDI.start0 (by omega) (fun k => f30.1 28 0 k (by simp) (by decide))) (Nat.lt_succ_self _)
      · have f50 : 400 < x43.toInt := by
          have q : _ := c45
          simp only [ti_nle, ti_nlt, ti_le, ti_lt, ti_eq, ti_ne, Classical.not_not, kt_400] at q
          omega
        have b51 : IV x43 401 408 := ⟨by have q1 := kc_400; have q2 := b44; omega, by have q1 := kc_400; have q2 := b44; omega⟩
        refine m_ldc (v := (-1000003)) C dX12_feed_27 q4_222 ?_
        exact m_iret C hr hlk (by decide) (by decide) dX12_feed_29 ⟨_, rfl, i29, g33, (iv_wk kc_m1000003 (by decide)), (Or.inr (Or.inl ⟨by omega, by omega, by have q := kt_m1000003; omega, by omega, (fun k => f30.1 28 0 k (by simp) (by decide))⟩))⟩
    · exfalso
      have q : _ := c40
      simp only [ti_nle, ti_nlt, ti_le, ti_lt, ti_eq, ti_ne, Classical.not_not, kt_0] at q
      have q1 := b39; have q2 := kc_0; omega
  · skip
    have b53 : IV x31 0 0 := ⟨by omega, by omega⟩
    show MW p l e _ s m args below meth c _ 5 G 0 0 9 [some (.ref (G.1 22 0)), some (.long a1), none, some (.int a2), none] [.int x31] τ28
    refine m_if_ne (tgt := 15) C dX12_feed_9 (by decide) (fun c54 => ?_) (fun c54 => ?_)
    · exfalso
      have q : _ := c54
      simp only [ti_nle, ti_nlt, ti_le, ti_lt, ti_eq, ti_ne, Classical.not_not, kt_0] at q
      have q1 := b53; have q2 := kc_0; omega
    · have f56 : x31.toInt = 0 := by
        have q : _ := c54
        simp only [ti_nle, ti_nlt, ti_le, ti_lt, ti_eq, ti_ne, Classical.not_not, kt_0] at q
        omega
      refine m_ldc (v := (-1000001)) C dX12_feed_12 q4_192 ?_
      exact m_iret C hr hlk (by decide) (by decide) dX12_feed_14 ⟨_, rfl, i29, g33, (iv_wk kc_m1000001 (by decide)), (Or.inl ⟨by omega, by have q := kt_m1000001; omega, by omega, (fun k => f30.1 28 0 k (by simp) (by decide))⟩)⟩

abbrev MS_X11_faultT : List (Nat × Nat) := []
abbrev AS_X11_faultT : List Nat := []
set_option maxHeartbeats 4000000 in
set_option maxRecDepth 100000 in
theorem c_X11_faultT (l : Launch) (G : Gt) (σ : Sg) (hI : Inv σ) : Mc l G yX11_fault cX11_fault 1 (some .int) 0 0 0 0 [.ref (G.1 0 0)] σ (PI fun r τ => Inv τ ∧ Fr MS_X11_faultT AS_X11_faultT σ τ ∧ IV r (-2147483648) 2147483647 ∧ r.toInt = (gV σ 12 0 2).toInt) := by
  refine Mc.of (L0 := [some (.ref (G.1 0 0))]) (by decide) (Nat.le_of_ble_eq_true rfl) rfl ?_
  intro p e s m args below meth c C hr hlk
  have C : Cx p s m args c cX11_fault 1 "LeanTower" := C
  have k0 : (0 : Int32).toInt = 0 := by decide
  have k1 : (1 : Int32).toInt = 1 := by decide
  refine m_aload_n C dX11_fault_0 rfl rfl ?_
  refine g_0_1 C q1_187 dX11_fault_1 ?_
  refine g_12_2 C q1_40 dX11_fault_4 ?_
  refine m_eqs (w := (gV σ 12 0 2)) rfl ?_
  exact m_iret C hr hlk (by decide) (by decide) dX11_fault_7 ⟨_, rfl, hI, Fr.rf, (iv_any (gV σ 12 0 2)), (by omega)⟩

abbrev MS_X12_faultT : List (Nat × Nat) := []
abbrev AS_X12_faultT : List Nat := []
set_option maxHeartbeats 4000000 in
set_option maxRecDepth 100000 in
theorem c_X12_faultT (l : Launch) (G : Gt) (σ : Sg) (hI : Inv σ) : Mc l G yX12_fault cX12_fault 1 (some .int) 0 0 0 0 [.ref (G.1 22 0)] σ (PI fun r τ => Inv τ ∧ Fr MS_X12_faultT AS_X12_faultT σ τ ∧ IV r (-2147483648) 2147483647 ∧ r.toInt = (gV σ 22 0 7).toInt) := by
  refine Mc.of (L0 := [some (.ref (G.1 22 0))]) (by decide) (Nat.le_of_ble_eq_true rfl) rfl ?_
  intro p e s m args below meth c C hr hlk
  have C : Cx p s m args c cX12_fault 1 "LeanTowerModel" := C
  have k0 : (0 : Int32).toInt = 0 := by decide
  have k1 : (1 : Int32).toInt = 1 := by decide
  refine m_aload_n C dX12_fault_0 rfl rfl ?_
  refine g_22_7 C q4_123 dX12_fault_1 ?_
  refine m_eqs (w := (gV σ 22 0 7)) rfl ?_
  exact m_iret C hr hlk (by decide) (by decide) dX12_fault_4 ⟨_, rfl, hI, Fr.rf, (iv_any (gV σ 22 0 7)), (by omega)⟩
theorem RT.feedB {σ τ υ : Sg} {a1 : Int64} {a2 r1 r2 : Int32} (h : Rel σ) (hT : RT σ) (f1 : Fr MS_X11_feedT AS_X11_feedT σ τ) (f2 : Fr MS_X12_feedT AS_X12_feedT τ υ) (hC : (((a2.toInt < 1 ∨ 8 < a2.toInt) ∧ r1.toInt = -1000001 ∧ (gV τ 12 0 1).toInt = (gV σ 12 0 1).toInt ∧ ∀ k, gV τ 13 0 k = gV σ 13 0 k) ∨ ((1 ≤ a2.toInt ∧ a2.toInt ≤ 8) ∧ 400 < (gV σ 12 0 1).toInt + a2.toInt ∧ r1.toInt = -1000003 ∧ (gV τ 12 0 1).toInt = (gV σ 12 0 1).toInt ∧ ∀ k, gV τ 13 0 k = gV σ 13 0 k) ∨ ((1 ≤ a2.toInt ∧ a2.toInt ≤ 8) ∧ (gV σ 12 0 1).toInt + a2.toInt ≤ 400 ∧ r1.toInt = (gV σ 12 0 1).toInt + a2.toInt ∧ (gV τ 12 0 1).toInt = (gV σ 12 0 1).toInt + a2.toInt ∧ FDI 13 (fcB a1) (gV σ 12 0 1).toInt a2.toInt (-1) σ τ))) (hM : (((a2.toInt < 1 ∨ 8 < a2.toInt) ∧ r2.toInt = -1000001 ∧ (gV υ 22 0 6).toInt = (gV τ 22 0 6).toInt ∧ ∀ k, gV υ 28 0 k = gV τ 28 0 k) ∨ ((1 ≤ a2.toInt ∧ a2.toInt ≤ 8) ∧ 400 < (gV τ 22 0 6).toInt + a2.toInt ∧ r2.toInt = -1000003 ∧ (gV υ 22 0 6).toInt = (gV τ 22 0 6).toInt ∧ ∀ k, gV υ 28 0 k = gV τ 28 0 k) ∨ ((1 ≤ a2.toInt ∧ a2.toInt ≤ 8) ∧ (gV τ 22 0 6).toInt + a2.toInt ≤ 400 ∧ r2.toInt = (gV τ 22 0 6).toInt + a2.toInt ∧ (gV υ 22 0 6).toInt = (gV τ 22 0 6).toInt + a2.toInt ∧ FDI 28 (fmB a1) (gV τ 22 0 6).toInt a2.toInt (-1) τ υ))) : Rel υ ∧ RT υ ∧ r1.toInt = r2.toInt := by
  have l1 : SameR σ υ := (SameR.rf.fr f1 (by simp) (by decide)).fr f2 (by simp) (by decide)
  have l2 : SameL σ υ := (SameL.rf.fr f1 (by simp) (by decide)).fr f2 (by simp) (by decide)
  have t1 : (gV υ 12 0 1).toInt = (gV τ 12 0 1).toInt := congrArg Int32.toInt (f2.1 12 0 1 (by decide) (by decide))
  have t2 : (gV τ 22 0 6).toInt = (gV σ 22 0 6).toInt := congrArg Int32.toInt (f1.1 22 0 6 (by decide) (by decide))
  have t3 : (gV σ 12 0 1).toInt = (gV σ 22 0 6).toInt := congrArg Int32.toInt h.2
  have t4 : (gV υ 12 0 2).toInt = (gV υ 22 0 7).toInt := by
    rw [f2.1 12 0 2 (by decide) (by decide), f1.1 12 0 2 (by decide) (by decide), f2.1 22 0 7 (by decide) (by decide), f1.1 22 0 7 (by decide) (by decide)]
    exact hT.2
  have d1 : ∀ k, gV υ 13 0 k = gV τ 13 0 k := fun k => f2.1 13 0 k (by simp) (by decide)
  have d2 : ∀ k, gV τ 28 0 k = gV σ 28 0 k := fun k => f1.1 28 0 k (by simp) (by decide)
  have S : (∀ k, gV τ 13 0 k = gV σ 13 0 k) → (∀ k, gV υ 28 0 k = gV τ 28 0 k) → (gV υ 12 0 1).toInt = (gV σ 12 0 1).toInt → (gV υ 22 0 6).toInt = (gV σ 22 0 6).toInt → RT υ := fun g1 g2 g3 g4 => by
    obtain ⟨⟨T, N, h1, h2⟩, h3⟩ := hT
    refine ⟨⟨T, N, ⟨g3.trans h1.1, h1.2.1, fun k hk => ?_, h1.2.2.2⟩, ⟨g4.trans h2.1, h2.2.1, fun k hk => ?_, h2.2.2.2⟩⟩, t4⟩
    · rw [d1, g1]
      exact h1.2.2.1 k hk
    · rw [g2, d2]
      exact h2.2.2.1 k hk
  rcases hC with ⟨c1, c2, c3, c4⟩ | ⟨c1, c2, c3, c4, c5⟩ | ⟨c1, c2, c3, c4, c5⟩ <;> rcases hM with ⟨m1, m2, m3, m4⟩ | ⟨m1, m2, m3, m4, m5⟩ | ⟨m1, m2, m3, m4, m5⟩
  · exact ⟨h.tape l1 l2 (by omega), S c4 m4 (by omega) (by omega), by omega⟩
  · exfalso; omega
  · exfalso; omega
  · exfalso; omega
  · exact ⟨h.tape l1 l2 (by omega), S c5 m5 (by omega) (by omega), by omega⟩
  · exfalso; omega
  · exfalso; omega
  · exfalso; omega
  · refine ⟨h.tape l1 l2 (by omega), ?_, by omega⟩
    rw [t2] at m5
    exact hT.fed c5 d1 d2 m5 (by omega) (by omega) t4 (by omega) (by omega)
theorem RT.towerB {σ τ υ : Sg} {T : Nat → Int} {N : Nat} {r1 r2 : Int32} (h : Rel σ) (hT : RT σ) (f1 : Fr MS_X11_towerS AS_X11_towerS σ τ) (f2 : Fr MS_X12_towerS AS_X12_towerS τ υ) (hC : ((r1.toInt = -1000100 - outP T N ∧ outF T N ≠ 0 ∧ (gV τ 12 0 2).toInt = outF T N ∧ (gV τ 12 0 1).toInt = 0) ∨ (r1.toInt = outN T N ∧ outF T N = 0 ∧ (gV τ 12 0 2).toInt = (gV σ 12 0 2).toInt ∧ (gV τ 12 0 1).toInt = 0))) (hM : ((r2.toInt = -1000100 - outP T N ∧ outF T N ≠ 0 ∧ (gV υ 22 0 7).toInt = outF T N ∧ (gV υ 22 0 6).toInt = 0) ∨ (r2.toInt = outN T N ∧ outF T N = 0 ∧ (gV υ 22 0 7).toInt = (gV τ 22 0 7).toInt ∧ (gV υ 22 0 6).toInt = 0))) : Rel υ ∧ RT υ ∧ r1.toInt = r2.toInt := by
  have l1 : SameR σ υ := (SameR.rf.fr f1 (by simp) (by decide)).fr f2 (by simp) (by decide)
  have l2 : SameL σ υ := (SameL.rf.fr f1 (by simp) (by decide)).fr f2 (by simp) (by decide)
  have t1 : (gV υ 12 0 1).toInt = (gV τ 12 0 1).toInt := congrArg Int32.toInt (f2.1 12 0 1 (by decide) (by decide))
  have t2 : (gV υ 12 0 2).toInt = (gV τ 12 0 2).toInt := congrArg Int32.toInt (f2.1 12 0 2 (by decide) (by decide))
  have t3 : (gV τ 22 0 7).toInt = (gV σ 22 0 7).toInt := congrArg Int32.toInt (f1.1 22 0 7 (by decide) (by decide))
  have t4 := hT.2
  exact ⟨h.tape l1 l2 (by omega), RT.empty (by omega) (by omega) (by omega), by omega⟩
