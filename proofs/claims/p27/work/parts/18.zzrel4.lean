abbrev MS_X6_appendE : List (Nat × Nat) := [(12, 1)]
abbrev AS_X6_appendE : List Nat := [13]
set_option maxHeartbeats 4000000 in
set_option maxRecDepth 100000 in
theorem c_X6_appendE (l : Launch) (G : Gt) (σ : Sg) (a1 : Int32) (hI : Inv σ) : Mc l G yX6_append cX6_append 2 none 0 0 0 0 [.ref (G.1 12 0), .int a1] σ (PV fun τ => Inv τ ∧ Fr MS_X6_appendE AS_X6_appendE σ τ ∧ ((gV σ 12 0 1).toInt < 400 → (gV τ 12 0 1).toInt = (gV σ 12 0 1).toInt + 1)) := by
  refine Mc.of (L0 := [some (.ref (G.1 12 0)), some (.int a1)]) (by decide) (Nat.le_of_ble_eq_true rfl) rfl ?_
  intro p e s m args below meth c C hr hlk
  have C : Cx p s m args c cX6_append 2 "LeanTower$Reader" := C
  have k0 : (0 : Int32).toInt = 0 := by decide
  have k1 : (1 : Int32).toInt = 1 := by decide
  have u1 : IV (gV σ 12 0 1) 0 400 := hI.1 12 0 1
  refine m_aload_n C dX6_append_0 rfl rfl ?_
  refine g_12_1 C q1_38 dX6_append_1 ?_
  refine m_eqs (w := (gV σ 12 0 1)) rfl ?_
  refine m_sipush (v := 400) C dX6_append_4 (by decide) ?_
  refine m_icmp_ge (tgt := 30) C dX6_append_7 (by decide) (fun c2 => ?_) (fun c2 => ?_)
  · have f3 : 400 ≤ (gV σ 12 0 1).toInt := by
      have q : _ := c2
      simp only [ti_nle, ti_nlt, ti_le, ti_lt, ti_eq, ti_ne, Classical.not_not, kt_400] at q
      omega
    have b4 : IV (gV σ 12 0 1) 400 400 := ⟨by have q1 := kc_400; have q2 := u1; omega, by have q1 := kc_400; have q2 := u1; omega⟩
    exact m_vret C hr hlk (by decide) (by decide) dX6_append_30 ⟨rfl, hI, Fr.rf, (by omega)⟩
  · have f5 : (gV σ 12 0 1).toInt < 400 := by
      have q : _ := c2
      simp only [ti_nle, ti_nlt, ti_le, ti_lt, ti_eq, ti_ne, Classical.not_not, kt_400] at q
      omega
    have b6 : IV (gV σ 12 0 1) 0 399 := ⟨by have q1 := u1; have q2 := kc_400; omega, by have q1 := u1; have q2 := kc_400; omega⟩
    refine m_aload_n C dX6_append_10 rfl rfl ?_
    refine g_12_0 C q1_37 dX6_append_11 ?_
    refine m_aload_n C dX6_append_14 rfl rfl ?_
    refine g_12_1 C q1_38 dX6_append_15 ?_
    refine m_eqs (w := (gV σ 12 0 1)) rfl ?_
    refine m_iload_n C dX6_append_18 rfl rfl ?_
    refine as_13 C b6 (by decide) rfl dX6_append_19 ?_
    obtain ⟨x7, ex7⟩ : ∃ y : Int32, y = vp_nar .byte a1 := ⟨_, rfl⟩
    rw [← ex7]
    refine m_tops (fun τ8 eτ8 => ?_)
    have i9 : Inv τ8 := eτ8 ▸ Inv.putF hI (by decide) rfl
    have f10 : Fr MS_X6_appendE AS_X6_appendE σ τ8 := eτ8 ▸ Fr.put (Fr.rf) (Or.inr (by decide))
    refine m_aload_n C dX6_append_20 rfl rfl ?_
    refine m_dup C dX6_append_21 rfl ?_
    refine g_12_1 C q1_38 dX6_append_22 ?_
    refine m_eqs (w := (gV σ 12 0 1)) (show gV τ8 12 0 1 = (gV σ 12 0 1) from gV_put eτ8 rfl) ?_
    refine m_iconst (v := 1) C dX6_append_25 (by decide) ?_
    refine m_iadd C dX6_append_26 ?_
    refine m_topi (fun x11 ex11 => ?_)
    have tx11 : x11.toInt = (gV σ 12 0 1).toInt + 1 := by rw [ex11, ti_addv b6 kc_1 (by decide), kt_1]
    have b12 : IV x11 1 400 := by rw [ex11]; exact iv_add b6 kc_1 (by decide)
    refine p_12_1 C q1_38 dX6_append_27 ?_
    refine m_tops (fun τ13 eτ13 => ?_)
    have i14 : Inv τ13 := eτ13 ▸ Inv.put i9 (by decide) (iv_wk b12 (by decide))
    have f15 : Fr MS_X6_appendE AS_X6_appendE σ τ13 := eτ13 ▸ Fr.put (f10) (Or.inl (by decide))
    have q16 : (gV τ13 12 0 1).toInt = x11.toInt := congrArg Int32.toInt (show (gV τ13 12 0 1) = x11 from (show gV τ13 12 0 1 = x11 from gV_put eτ13 (gV_self _ _ _ _ _)))
    exact m_vret C hr hlk (by decide) (by decide) dX6_append_30 ⟨rfl, i14, f15, (by omega)⟩

abbrev MS_X11_feedE : List (Nat × Nat) := [(12, 1)]
abbrev AS_X11_feedE : List Nat := [13]
set_option maxHeartbeats 4000000 in
set_option maxRecDepth 100000 in
theorem c_X11_feedE (l : Launch) (G : Gt) (σ : Sg) (a1 : Int64) (a2 : Int32) (hI : Inv σ) : Mc l G yX11_feed cX11_feed 5 (some .int) 1 21 0 0 [.ref (G.1 0 0), .long a1, .int a2] σ (PI fun r τ => Inv τ ∧ Fr MS_X11_feedE AS_X11_feedE σ τ ∧ IV r (-1000003) 400 ∧ (((a2.toInt < 1 ∨ 8 < a2.toInt) ∧ r.toInt = -1000001 ∧ (gV τ 12 0 1).toInt = (gV σ 12 0 1).toInt) ∨ ((1 ≤ a2.toInt ∧ a2.toInt ≤ 8) ∧ 400 < (gV σ 12 0 1).toInt + a2.toInt ∧ r.toInt = -1000003 ∧ (gV τ 12 0 1).toInt = (gV σ 12 0 1).toInt) ∨ ((1 ≤ a2.toInt ∧ a2.toInt ≤ 8) ∧ (gV σ 12 0 1).toInt + a2.toInt ≤ 400 ∧ r.toInt = (gV σ 12 0 1).toInt + a2.toInt ∧ (gV τ 12 0 1).toInt = (gV σ 12 0 1).toInt + a2.toInt))) := by
  refine Mc.of (L0 := [some (.ref (G.1 0 0)), some (.long a1), none, some (.int a2), none]) (by decide) (Nat.le_of_ble_eq_true rfl) rfl ?_
  intro p e s m args below meth c C hr hlk
  have C : Cx p s m args c cX11_feed 5 "LeanTower" := C
  have k0 : (0 : Int32).toInt = 0 := by decide
  have k1 : (1 : Int32).toInt = 1 := by decide
  have J37 : ∀ (n : Nat) (τ : Sg) (y4 : Int32), Inv τ → Fr MS_X11_feedE AS_X11_feedE σ τ → IV a2 1 8 → IV y4 (-1) 7 → ((gV τ 12 0 1).toInt + y4.toInt + 1 = (gV σ 12 0 1).toInt + a2.toInt) → ((gV σ 12 0 1).toInt + a2.toInt ≤ 400) → (y4.toInt - (-1)).toNat < n → MW p l e { frames := 1, cells := 0, slots := 0, locals := 21 } s m args below meth c (MQ below (QP G (PI fun r τ => Inv τ ∧ Fr MS_X11_feedE AS_X11_feedE σ τ ∧ IV r (-1000003) 400 ∧ (((a2.toInt < 1 ∨ 8 < a2.toInt) ∧ r.toInt = -1000001 ∧ (gV τ 12 0 1).toInt = (gV σ 12 0 1).toInt) ∨ ((1 ≤ a2.toInt ∧ a2.toInt ≤ 8) ∧ 400 < (gV σ 12 0 1).toInt + a2.toInt ∧ r.toInt = -1000003 ∧ (gV τ 12 0 1).toInt = (gV σ 12 0 1).toInt) ∨ ((1 ≤ a2.toInt ∧ a2.toInt ≤ 8) ∧ (gV σ 12 0 1).toInt + a2.toInt ≤ 400 ∧ r.toInt = (gV σ 12 0 1).toInt + a2.toInt ∧ (gV τ 12 0 1).toInt = (gV σ 12 0 1).toInt + a2.toInt)))) args s 0 0 (aG G)) 5 G 0 0 37 [some (.ref (G.1 0 0)), some (.long a1), none, none, some (.int y4)] [] τ := by
    intro n
    induction n with
    | zero => intro τ y4 iτ fτ b_a2 b_y4 n1 n2 hm; exact absurd hm (Nat.not_lt_zero _)
    | succ n ih37 =>
      intro τ y4 iτ fτ b_a2 b_y4 n1 n2 hm37
      have u3 : IV (gV τ 12 0 1) 0 400 := iτ.1 12 0 1
      refine m_iload C dX11_feed_37 rfl ?_
      refine m_if_lt (tgt := 64) C dX11_feed_39 (by decide) (fun c4 => ?_) (fun c4 => ?_)
      · have f5 : y4.toInt < 0 := by
          have q : _ := c4
          simp only [ti_nle, ti_nlt, ti_le, ti_lt, ti_eq, ti_ne, Classical.not_not, kt_0] at q
          omega
        have b6 : IV y4 (-1) (-1) := ⟨by have q1 := b_y4; have q2 := kc_0; omega, by have q1 := b_y4; have q2 := kc_0; omega⟩
        refine m_aload_n C dX11_feed_64 rfl rfl ?_
        refine g_0_1 C q1_187 dX11_feed_65 ?_
        refine g_12_1 C q1_39 dX11_feed_68 ?_
        refine m_eqs (w := (gV τ 12 0 1)) rfl ?_
        exact m_iret C hr hlk (by decide) (by decide) dX11_feed_71 ⟨_, rfl, iτ, fτ, (iv_wk u3 (by decide)), (by omega)⟩
      · have f7 : 0 ≤ y4.toInt := by
          have q : _ := c4
          simp only [ti_nle, ti_nlt, ti_le, ti_lt, ti_eq, ti_ne, Classical.not_not, kt_0] at q
          omega
        have b8 : IV y4 0 7 := ⟨by have q1 := kc_0; have q2 := b_y4; omega, by have q1 := kc_0; have q2 := b_y4; omega⟩
        refine m_aload_n C dX11_feed_42 rfl rfl ?_
        refine g_0_1 C q1_187 dX11_feed_43 ?_
        refine m_lload_n C dX11_feed_46 rfl rfl ?_
        refine m_bipush (v := 8) C dX11_feed_47 (by decide) ?_
        refine m_iload C dX11_feed_49 rfl ?_
        refine m_imul C dX11_feed_51 ?_
        refine m_topi (fun x9 ex9 => ?_)
        have tx9 : x9.toInt = 8 * y4.toInt := by rw [ex9, ti_mulv kc_8 b8 (by decide), kt_8]
        have b10 : IV x9 0 56 := by rw [ex9]; exact iv_mul kc_8 b8 (by decide)
        refine m_lshr C dX11_feed_52 ?_
        refine m_topl (fun w11 ew11 => ?_)
        refine m_l2i C dX11_feed_53 ?_
        refine m_topi (fun x12 ex12 => ?_)
        refine m_i2b C dX11_feed_54 ?_
        refine m_topi (fun x13 ex13 => ?_)
        refine m_callV (n := 1) (ci := 5) (st := []) C (c_X6_appendE l G τ (x13) iτ ) (by decide) (by decide) rfl rfl rfl q2_47 q2_44 q2_45 q2_46 q1_2 (by decide +kernel) rfl (by decide) (by decide) rfl (Nat.le_of_ble_eq_true rfl) dX11_feed_55 ?_
        rintro _ τ14 ⟨rfl, i15, f16, h20⟩
        have g19 : Fr MS_X11_feedE AS_X11_feedE σ τ14 := Fr.call (fτ) f16 (by decide)
        have u21 : IV (gV τ14 12 0 1) 0 400 := i15.1 12 0 1
        show MW p l e _ s m args below meth c _ 5 G 0 0 58 [some (.ref (G.1 0 0)), some (.long a1), none, none, some (.int y4)] [] τ14
        obtain ⟨x22, ex22⟩ : ∃ y : Int32, y = y4 + (-1) := ⟨_, rfl⟩
        have tx22 : x22.toInt = y4.toInt + (-1) := by rw [ex22, ti_addv b8 kc_m1 (by decide), kt_m1]
        have b23 : IV x22 (-1) 6 := by rw [ex22]; exact iv_add b8 kc_m1 (by decide)
        refine m_iinc (v := x22) (L1 := [some (.ref (G.1 0 0)), some (.long a1), none, none, some (.int x22)]) C dX11_feed_58 rfl (by rw [ex22]; rfl) (by decide) rfl rfl ?_
        refine m_goto (tgt := 37) C dX11_feed_61 (by decide) ?_
        exact ih37 τ14 x22 i15 g19 b_a2 (iv_wk b23 (by decide)) (by omega) (by omega) (by have q := hm37; omega)
  have u24 : IV (gV σ 12 0 1) 0 400 := hI.1 12 0 1
  refine m_iload_n C dX11_feed_0 rfl rfl ?_
  refine m_iconst (v := 1) C dX11_feed_1 (by decide) ?_
  refine m_icmp_lt (tgt := 11) C dX11_feed_2 (by decide) (fun c25 => ?_) (fun c25 => ?_)
  · have f26 : a2.toInt < 1 := by
      have q : _ := c25
      simp only [ti_nle, ti_nlt, ti_le, ti_lt, ti_eq, ti_ne, Classical.not_not, kt_1] at q
      omega
    have b27 : IV a2 (-2147483648) 0 := ⟨by have q1 := (iv_any a2); have q2 := kc_1; omega, by have q1 := (iv_any a2); have q2 := kc_1; omega⟩
    refine m_ldc (v := (-1000001)) C dX11_feed_11 q1_234 ?_
    exact m_iret C hr hlk (by decide) (by decide) dX11_feed_13 ⟨_, rfl, hI, Fr.rf, (iv_wk kc_m1000001 (by decide)), (by have q := kt_m1000001; omega)⟩
  · have f28 : 1 ≤ a2.toInt := by
      have q : _ := c25
      simp only [ti_nle, ti_nlt, ti_le, ti_lt, ti_eq, ti_ne, Classical.not_not, kt_1] at q
      omega
    have b29 : IV a2 1 2147483647 := ⟨by have q1 := kc_1; have q2 := (iv_any a2); omega, by have q1 := kc_1; have q2 := (iv_any a2); omega⟩
    refine m_iload_n C dX11_feed_5 rfl rfl ?_
    refine m_bipush (v := 8) C dX11_feed_6 (by decide) ?_
    refine m_icmp_le (tgt := 14) C dX11_feed_8 (by decide) (fun c30 => ?_) (fun c30 => ?_)
    · have f31 : a2.toInt ≤ 8 := by
        have q : _ := c30
        simp only [ti_nle, ti_nlt, ti_le, ti_lt, ti_eq, ti_ne, Classical.not_not, kt_8] at q
        omega
      have b32 : IV a2 1 8 := ⟨by have q1 := b29; have q2 := kc_8; omega, by have q1 := b29; have q2 := kc_8; omega⟩
      refine m_aload_n C dX11_feed_14 rfl rfl ?_
      refine g_0_1 C q1_187 dX11_feed_15 ?_
      refine g_12_1 C q1_39 dX11_feed_18 ?_
      refine m_eqs (w := (gV σ 12 0 1)) rfl ?_
      refine m_iload_n C dX11_feed_21 rfl rfl ?_
      refine m_iadd C dX11_feed_22 ?_
      refine m_topi (fun x33 ex33 => ?_)
      have tx33 : x33.toInt = (gV σ 12 0 1).toInt + a2.toInt := by rw [ex33, ti_addv u24 b32 (by decide)]
      have b34 : IV x33 1 408 := by rw [ex33]; exact iv_add u24 b32 (by decide)
      refine m_sipush (v := 400) C dX11_feed_23 (by decide) ?_
      refine m_icmp_le (tgt := 32) C dX11_feed_26 (by decide) (fun c35 => ?_) (fun c35 => ?_)
      · have f36 : x33.toInt ≤ 400 := by
          have q : _ := c35
          simp only [ti_nle, ti_nlt, ti_le, ti_lt, ti_eq, ti_ne, Classical.not_not, kt_400] at q
          omega
        have b37 : IV x33 1 400 := ⟨by have q1 := b34; have q2 := kc_400; omega, by have q1 := b34; have q2 := kc_400; omega⟩
        refine m_iload_n C dX11_feed_32 rfl rfl ?_
        refine m_iconst (v := 1) C dX11_feed_33 (by decide) ?_
        refine m_isub C dX11_feed_34 ?_
        refine m_topi (fun x38 ex38 => ?_)
        have tx38 : x38.toInt = a2.toInt - 1 := by rw [ex38, ti_subv b32 kc_1 (by decide), kt_1]
        have b39 : IV x38 0 7 := by rw [ex38]; exact iv_sub b32 kc_1 (by decide)
        refine m_istore (L1 := [some (.ref (G.1 0 0)), some (.long a1), none, some (.int a2), some (.int x38)]) C dX11_feed_35 (by decide) rfl rfl ?_
        refine m_sub (L1 := [some (.ref (G.1 0 0)), some (.long a1), none, none, some (.int x38)]) ⟨rfl, ⟨rfl, ⟨rfl, trivial⟩⟩⟩ ?_
        exact J37 ((x38.toInt - (-1)).toNat + 1) σ x38 hI Fr.rf b32 (iv_wk b39 (by decide)) (by omega) (by omega) (Nat.lt_succ_self _)
      · have f40 : 400 < x33.toInt := by
          have q : _ := c35
          simp only [ti_nle, ti_nlt, ti_le, ti_lt, ti_eq, ti_ne, Classical.not_not, kt_400] at q
          omega
        have b41 : IV x33 401 408 := ⟨by have q1 := kc_400; have q2 := b34; omega, by have q1 := kc_400; have q2 := b34; omega⟩
        refine m_ldc (v := (-1000003)) C dX11_feed_29 q2_43 ?_
        exact m_iret C hr hlk (by decide) (by decide) dX11_feed_31 ⟨_, rfl, hI, Fr.rf, (iv_wk kc_m1000003 (by decide)), (by have q := kt_m1000003; omega)⟩
    · have f42 : 8 < a2.toInt := by
        have q : _ := c30
        simp only [ti_nle, ti_nlt, ti_le, ti_lt, ti_eq, ti_ne, Classical.not_not, kt_8] at q
        omega
      have b43 : IV a2 9 2147483647 := ⟨by have q1 := kc_8; have q2 := b29; omega, by have q1 := kc_8; have q2 := b29; omega⟩
      refine m_ldc (v := (-1000001)) C dX11_feed_11 q1_234 ?_
      exact m_iret C hr hlk (by decide) (by decide) dX11_feed_13 ⟨_, rfl, hI, Fr.rf, (iv_wk kc_m1000001 (by decide)), (by have q := kt_m1000001; omega)⟩

abbrev MS_X12_feedE : List (Nat × Nat) := [(22, 6)]
abbrev AS_X12_feedE : List Nat := [28]
set_option maxHeartbeats 4000000 in
set_option maxRecDepth 100000 in
theorem c_X12_feedE (l : Launch) (G : Gt) (σ : Sg) (a1 : Int64) (a2 : Int32) (hI : Inv σ) : Mc l G yX12_feed cX12_feed 5 (some .int) 1 25 0 0 [.ref (G.1 22 0), .long a1, .int a2] σ (PI fun r τ => Inv τ ∧ Fr MS_X12_feedE AS_X12_feedE σ τ ∧ IV r (-1000003) 400 ∧ (((a2.toInt < 1 ∨ 8 < a2.toInt) ∧ r.toInt = -1000001 ∧ (gV τ 22 0 6).toInt = (gV σ 22 0 6).toInt) ∨ ((1 ≤ a2.toInt ∧ a2.toInt ≤ 8) ∧ 400 < (gV σ 22 0 6).toInt + a2.toInt ∧ r.toInt = -1000003 ∧ (gV τ 22 0 6).toInt = (gV σ 22 0 6).toInt) ∨ ((1 ≤ a2.toInt ∧ a2.toInt ≤ 8) ∧ (gV σ 22 0 6).toInt + a2.toInt ≤ 400 ∧ r.toInt = (gV σ 22 0 6).toInt + a2.toInt ∧ (gV τ 22 0 6).toInt = (gV σ 22 0 6).toInt + a2.toInt))) := by
  refine Mc.of (L0 := [some (.ref (G.1 22 0)), some (.long a1), none, some (.int a2), none]) (by decide) (Nat.le_of_ble_eq_true rfl) rfl ?_
  intro p e s m args below meth c C hr hlk
  have C : Cx p s m args c cX12_feed 5 "LeanTowerModel" := C
  have k0 : (0 : Int32).toInt = 0 := by decide
  have k1 : (1 : Int32).toInt = 1 := by decide
  have J35 : ∀ (n : Nat) (τ : Sg) (y4 : Int32), Inv τ → Fr MS_X12_feedE AS_X12_feedE σ τ → IV a2 1 8 → IV y4 (-1) 7 → ((gV τ 22 0 6).toInt + y4.toInt ≤ 399) → ((gV τ 22 0 6).toInt + y4.toInt + 1 = (gV σ 22 0 6).toInt + a2.toInt) → ((gV σ 22 0 6).toInt + a2.toInt ≤ 400) → (y4.toInt - (-1)).toNat < n → MW p l e { frames := 1, cells := 0, slots := 0, locals := 25 } s m args below meth c (MQ below (QP G (PI fun r τ => Inv τ ∧ Fr MS_X12_feedE AS_X12_feedE σ τ ∧ IV r (-1000003) 400 ∧ (((a2.toInt < 1 ∨ 8 < a2.toInt) ∧ r.toInt = -1000001 ∧ (gV τ 22 0 6).toInt = (gV σ 22 0 6).toInt) ∨ ((1 ≤ a2.toInt ∧ a2.toInt ≤ 8) ∧ 400 < (gV σ 22 0 6).toInt + a2.toInt ∧ r.toInt = -1000003 ∧ (gV τ 22 0 6).toInt = (gV σ 22 0 6).toInt) ∨ ((1 ≤ a2.toInt ∧ a2.toInt ≤ 8) ∧ (gV σ 22 0 6).toInt + a2.toInt ≤ 400 ∧ r.toInt = (gV σ 22 0 6).toInt + a2.toInt ∧ (gV τ 22 0 6).toInt = (gV σ 22 0 6).toInt + a2.toInt)))) args s 0 0 (aG G)) 5 G 0 0 35 [some (.ref (G.1 22 0)), some (.long a1), none, none, some (.int y4)] [] τ := by
    intro n
    induction n with
    | zero => intro τ y4 iτ fτ b_a2 b_y4 n1 n2 n3 hm; exact absurd hm (Nat.not_lt_zero _)
    | succ n ih35 =>
      intro τ y4 iτ fτ b_a2 b_y4 n1 n2 n3 hm35
      have u4 : IV (gV τ 22 0 6) 0 400 := iτ.1 22 0 6
      refine m_iload C dX12_feed_35 rfl ?_
      refine m_if_lt (tgt := 77) C dX12_feed_37 (by decide) (fun c5 => ?_) (fun c5 => ?_)
      · have f6 : y4.toInt < 0 := by
          have q : _ := c5
          simp only [ti_nle, ti_nlt, ti_le, ti_lt, ti_eq, ti_ne, Classical.not_not, kt_0] at q
          omega
        have b7 : IV y4 (-1) (-1) := ⟨by have q1 := b_y4; have q2 := kc_0; omega, by have q1 := b_y4; have q2 := kc_0; omega⟩
        refine m_aload_n C dX12_feed_77 rfl rfl ?_
        refine g_22_6 C q4_122 dX12_feed_78 ?_
        refine m_eqs (w := (gV τ 22 0 6)) rfl ?_
        exact m_iret C hr hlk (by decide) (by decide) dX12_feed_81 ⟨_, rfl, iτ, fτ, (iv_wk u4 (by decide)), (by omega)⟩
      · have f8 : 0 ≤ y4.toInt := by
          have q : _ := c5
          simp only [ti_nle, ti_nlt, ti_le, ti_lt, ti_eq, ti_ne, Classical.not_not, kt_0] at q
          omega
        have b9 : IV y4 0 7 := ⟨by have q1 := kc_0; have q2 := b_y4; omega, by have q1 := kc_0; have q2 := b_y4; omega⟩
        refine m_aload_n C dX12_feed_40 rfl rfl ?_
        refine g_22_5 C q4_121 dX12_feed_41 ?_
        refine m_aload_n C dX12_feed_44 rfl rfl ?_
        refine g_22_6 C q4_122 dX12_feed_45 ?_
        refine m_eqs (w := (gV τ 22 0 6)) rfl ?_
        refine m_lload_n C dX12_feed_48 rfl rfl ?_
        refine m_bipush (v := 8) C dX12_feed_49 (by decide) ?_
        refine m_iload C dX12_feed_51 rfl ?_
        refine m_imul C dX12_feed_53 ?_
        refine m_topi (fun x10 ex10 => ?_)
        have tx10 : x10.toInt = 8 * y4.toInt := by rw [ex10, ti_mulv kc_8 b9 (by decide), kt_8]
        have b11 : IV x10 0 56 := by rw [ex10]; exact iv_mul kc_8 b9 (by decide)
        refine m_lshr C dX12_feed_54 ?_
        refine m_topl (fun w12 ew12 => ?_)
        refine m_ldc2 (v := 255) C dX12_feed_55 q4_223 ?_
        refine m_land C dX12_feed_58 ?_
        refine m_topl (fun w13 ew13 => ?_)
        refine m_l2i C dX12_feed_59 ?_
        refine m_topi (fun x14 ex14 => ?_)
        have b15 : IV (gV τ 22 0 6) 0 399 := ⟨by have q1 := u4; omega, by have q1 := u4; omega⟩
        refine as_28 C b15 (by decide) rfl dX12_feed_60 ?_
        refine m_tops (fun τ16 eτ16 => ?_)
        have i17 : Inv τ16 := eτ16 ▸ Inv.putF iτ (by decide) rfl
        have f18 : Fr MS_X12_feedE AS_X12_feedE σ τ16 := eτ16 ▸ Fr.put (fτ) (Or.inr (by decide))
        refine m_aload_n C dX12_feed_61 rfl rfl ?_
        refine m_dup C dX12_feed_62 rfl ?_
        refine g_22_6 C q4_122 dX12_feed_63 ?_
        refine m_eqs (w := (gV τ 22 0 6)) (show gV τ16 22 0 6 = (gV τ 22 0 6) from gV_put eτ16 rfl) ?_
        refine m_iconst (v := 1) C dX12_feed_66 (by decide) ?_
        refine m_iadd C dX12_feed_67 ?_
        refine m_topi (fun x19 ex19 => ?_)
        have tx19 : x19.toInt = (gV τ 22 0 6).toInt + 1 := by rw [ex19, ti_addv b15 kc_1 (by decide), kt_1]
        have b20 : IV x19 1 400 := by rw [ex19]; exact iv_add b15 kc_1 (by decide)
        refine p_22_6 C q4_122 dX12_feed_68 ?_
        refine m_tops (fun τ21 eτ21 => ?_)
        have i22 : Inv τ21 := eτ21 ▸ Inv.put i17 (by decide) (iv_wk b20 (by decide))
        have f23 : Fr MS_X12_feedE AS_X12_feedE σ τ21 := eτ21 ▸ Fr.put (f18) (Or.inl (by decide))
        obtain ⟨x24, ex24⟩ : ∃ y : Int32, y = y4 + (-1) := ⟨_, rfl⟩
        have tx24 : x24.toInt = y4.toInt + (-1) := by rw [ex24, ti_addv b9 kc_m1 (by decide), kt_m1]
        have b25 : IV x24 (-1) 6 := by rw [ex24]; exact iv_add b9 kc_m1 (by decide)
        refine m_iinc (v := x24) (L1 := [some (.ref (G.1 22 0)), some (.long a1), none, none, some (.int x24)]) C dX12_feed_71 rfl (by rw [ex24]; rfl) (by decide) rfl rfl ?_
        refine m_goto (tgt := 35) C dX12_feed_74 (by decide) ?_
        have q26 : (gV τ21 22 0 6).toInt = x19.toInt := congrArg Int32.toInt (show (gV τ21 22 0 6) = x19 from (show gV τ21 22 0 6 = x19 from gV_put eτ21 (gV_self _ _ _ _ _)))
        exact ih35 τ21 x24 i22 f23 b_a2 (iv_wk b25 (by decide)) (by omega) (by omega) (by omega) (by have q := hm35; omega)
  have u27 : IV (gV σ 22 0 6) 0 400 := hI.1 22 0 6
  refine m_iload_n C dX12_feed_0 rfl rfl ?_
  refine m_i2l C dX12_feed_1 ?_
  refine m_lconst (v := 1) C dX12_feed_2 (by decide) ?_
  refine m_ldc2 (v := 8) C dX12_feed_3 q4_221 ?_
  refine m_callS (n := 3) (st := []) C (c_X12_in l G σ ((a2 : Int32).toInt64) (1) (8) hI ) q4_190 q4_188 q4_189 q1_7 (by decide +kernel) rfl (by decide) (by decide) rfl (Nat.le_of_ble_eq_true rfl) dX12_feed_6 ?_
  rintro _ τ28 ⟨x31, rfl, i29, f30, b32, h34⟩
  have g33 : Fr MS_X12_feedE AS_X12_feedE σ τ28 := Fr.call (Fr.rf) f30 (by decide)
  have q35 : (gV τ28 22 0 6).toInt = (gV σ 22 0 6).toInt := congrArg Int32.toInt (show (gV τ28 22 0 6) = (gV σ 22 0 6) from (show gV τ28 22 0 6 = (gV σ 22 0 6) from (f30.1 22 0 (6) (by decide) (by decide)).trans rfl))
  have f36 := tl_i a2
  have f37 := kl_1
  have f38 := kl_8
  rcases h34 with ⟨h34_0, h34_1, h34_2⟩ | ⟨h34_0, h34_1⟩
  · skip
    have b39 : IV x31 1 1 := ⟨by omega, by omega⟩
    show MW p l e _ s m args below meth c _ 5 G 0 0 9 [some (.ref (G.1 22 0)), some (.long a1), none, some (.int a2), none] [.int x31] τ28
    refine m_if_ne (tgt := 15) C dX12_feed_9 (by decide) (fun c40 => ?_) (fun c40 => ?_)
    · have f41 : x31.toInt ≠ 0 := by
        have q : _ := c40
        simp only [ti_nle, ti_nlt, ti_le, ti_lt, ti_eq, ti_ne, Classical.not_not, kt_0] at q
        omega
      have b42 : IV a2 1 8 := ⟨by have q1 := (iv_any a2); omega, by have q1 := (iv_any a2); omega⟩
      refine m_aload_n C dX12_feed_15 rfl rfl ?_
      refine g_22_6 C q4_122 dX12_feed_16 ?_
      refine m_eqs (w := (gV σ 22 0 6)) (show gV τ28 22 0 6 = (gV σ 22 0 6) from (f30.1 22 0 (6) (by decide) (by decide)).trans rfl) ?_
      refine m_iload_n C dX12_feed_19 rfl rfl ?_
      refine m_iadd C dX12_feed_20 ?_
      refine m_topi (fun x43 ex43 => ?_)
      have tx43 : x43.toInt = (gV σ 22 0 6).toInt + a2.toInt := by rw [ex43, ti_addv u27 b42 (by decide)]
      have b44 : IV x43 1 408 := by rw [ex43]; exact iv_add u27 b42 (by decide)
      refine m_sipush (v := 400) C dX12_feed_21 (by decide) ?_
      refine m_icmp_le (tgt := 30) C dX12_feed_24 (by decide) (fun c45 => ?_) (fun c45 => ?_)
      · have f46 : x43.toInt ≤ 400 := by
          have q : _ := c45
          simp only [ti_nle, ti_nlt, ti_le, ti_lt, ti_eq, ti_ne, Classical.not_not, kt_400] at q
          omega
        have b47 : IV x43 1 400 := ⟨by have q1 := b44; have q2 := kc_400; omega, by have q1 := b44; have q2 := kc_400; omega⟩
        refine m_iload_n C dX12_feed_30 rfl rfl ?_
        refine m_iconst (v := 1) C dX12_feed_31 (by decide) ?_
        refine m_isub C dX12_feed_32 ?_
        refine m_topi (fun x48 ex48 => ?_)
        have tx48 : x48.toInt = a2.toInt - 1 := by rw [ex48, ti_subv b42 kc_1 (by decide), kt_1]
        have b49 : IV x48 0 7 := by rw [ex48]; exact iv_sub b42 kc_1 (by decide)
        refine m_istore (L1 := [some (.ref (G.1 22 0)), some (.long a1), none, some (.int a2), some (.int x48)]) C dX12_feed_33 (by decide) rfl rfl ?_
        refine m_sub (L1 := [some (.ref (G.1 22 0)), some (.long a1), none, none, some (.int x48)]) ⟨rfl, ⟨rfl, ⟨rfl, trivial⟩⟩⟩ ?_
        exact J35 ((x48.toInt - (-1)).toNat + 1) τ28 x48 i29 g33 b42 (iv_wk b49 (by decide)) (by omega) (by omega) (by omega) (Nat.lt_succ_self _)
      · have f50 : 400 < x43.toInt := by
          have q : _ := c45
          simp only [ti_nle, ti_nlt, ti_le, ti_lt, ti_eq, ti_ne, Classical.not_not, kt_400] at q
          omega
        have b51 : IV x43 401 408 := ⟨by have q1 := kc_400; have q2 := b44; omega, by have q1 := kc_400; have q2 := b44; omega⟩
        refine m_ldc (v := (-1000003)) C dX12_feed_27 q4_222 ?_
        exact m_iret C hr hlk (by decide) (by decide) dX12_feed_29 ⟨_, rfl, i29, g33, (iv_wk kc_m1000003 (by decide)), (by have q := kt_m1000003; omega)⟩
    · exfalso
      have q : _ := c40
      simp only [ti_nle, ti_nlt, ti_le, ti_lt, ti_eq, ti_ne, Classical.not_not, kt_0] at q
      have q1 := b39; have q2 := kc_0; omega
  · skip
    have b53 : IV x31 0 0 := ⟨by omega, by omega⟩
    show MW p l e _ s m args below meth c _ 5 G 0 0 9 [some (.ref (G.1 22 0)), some (.long a1), none, some (.int a2), none] [.int x31] τ28
    refine m_if_ne (tgt := 15) C dX12_feed_9 (by decide) (fun c54 => ?_) (fun c54 => ?_)
    · exfalso
      have q : _ := c54
      simp only [ti_nle, ti_nlt, ti_le, ti_lt, ti_eq, ti_ne, Classical.not_not, kt_0] at q
      have q1 := b53; have q2 := kc_0; omega
    · have f56 : x31.toInt = 0 := by
        have q : _ := c54
        simp only [ti_nle, ti_nlt, ti_le, ti_lt, ti_eq, ti_ne, Classical.not_not, kt_0] at q
        omega
      refine m_ldc (v := (-1000001)) C dX12_feed_12 q4_192 ?_
      exact m_iret C hr hlk (by decide) (by decide) dX12_feed_14 ⟨_, rfl, i29, g33, (iv_wk kc_m1000001 (by decide)), (by have q := kt_m1000001; omega)⟩
