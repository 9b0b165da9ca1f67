/-! ===== rescue of the reference: sets of seven, who can all come down ===== -/
def bt (x p : Nat) : Nat := x / 2 ^ p % 2
def ob (x p : Nat) : Nat := x ||| 2 ^ p
def pw (n : Nat) : Nat := 2 ^ n
def pcn (x : Nat) : Nat := bt x 0 + bt x 1 + bt x 2 + bt x 3 + bt x 4 + bt x 5 + bt x 6
theorem bit_all : ∀ x, x < 128 → ∀ p, p < 7 → ((nI x >>> (nI p &&& 31)) &&& 1).toInt = (bt x p : Int) := by decide +kernel
theorem or_all : ∀ x, x < 128 → ∀ p, p < 7 → (nI x ||| ((1 : Int32) <<< (nI p &&& 31))).toInt = (ob x p : Int) := by decide +kernel
theorem ob_gt : ∀ x, x < 128 → ∀ p, p < 7 → bt x p = 0 → x < ob x p := by decide +kernel
theorem pcn_ob : ∀ x, x < 128 → ∀ p, p < 7 → bt x p = 0 → pcn (ob x p) = pcn x + 1 := by decide +kernel
theorem pcn_all : ∀ N, N < 8 → pcn (pw N - 1) = N := by decide +kernel
theorem pw_le : ∀ N, N < 8 → pw N ≤ 128 := by decide +kernel
theorem pw_pos (N : Nat) : 0 < pw N := Nat.pow_pos (by decide)
theorem ob_lt {x p N : Nat} (h : x < pw N) (hp : p < N) : ob x p < pw N := Nat.or_lt_two_pow h (Nat.pow_lt_pow_right (by decide) hp)
theorem iv_nI {x : Int32} {b : Int} (h : IV x 0 b) : ∃ j, j < 2 ^ 31 ∧ x = nI j ∧ x.toInt = (j : Int) := by
  have hx0 : ¬ x < 0 := by
    rw [ti_nlt]
    have e0 : (0 : Int32).toInt = 0 := by decide
    have := h.1
    omega
  obtain ⟨j, hj, rfl⟩ := nI_of hx0
  exact ⟨j, hj, rfl, nI_toInt hj⟩
theorem bit_i {x p y r : Int32} (er : r = y &&& 1) (es : y = x >>> (p &&& 31)) (hx : IV x 0 127) (hp : IV p 0 6) : r.toInt = (bt x.toInt.toNat p.toInt.toNat : Int) := by
  obtain ⟨i, hi, rfl, ei⟩ := iv_nI hx
  obtain ⟨j, hj, rfl, ej⟩ := iv_nI hp
  have h1 := hx.2
  have h2 := hp.2
  rw [er, es, bit_all i (by omega) j (by omega), ei, ej]
  rfl
theorem or_i {x p y r : Int32} (er : r = x ||| y) (es : y = (1 : Int32) <<< (p &&& 31)) (hx : IV x 0 127) (hp : IV p 0 6) : r.toInt.toNat = ob x.toInt.toNat p.toInt.toNat := by
  obtain ⟨i, hi, rfl, ei⟩ := iv_nI hx
  obtain ⟨j, hj, rfl, ej⟩ := iv_nI hp
  have h1 := hx.2
  have h2 := hp.2
  rw [er, es, or_all i (by omega) j (by omega), ei, ej]
  rfl
theorem or_0 {x r : Int32} (er : r = x ||| 0) : r.toInt.toNat = x.toInt.toNat := by
  rw [er, Int32.or_zero]
theorem shl_pw {p r : Int32} (es : r = (1 : Int32) <<< (p &&& 31)) (hp : IV p 0 7) : r.toInt = (pw p.toInt.toNat : Int) := by
  obtain ⟨j, hj, rfl, ej⟩ := iv_nI hp
  have h2 := hp.2
  rw [es, shl1_all j (by omega), ej]
  simp [pw]
def Wl (τ : Sg) (x l N : Nat) : Prop := ∃ p, l ≤ p ∧ p < N ∧ bt x p = 0 ∧ (gV τ 30 0 (ob x p)).toInt ≠ 0
def TT (τ : Sg) (o : Int) (N : Nat) : Prop := ∀ x : Nat, o < x → x < pw N → (gV τ 30 0 x).toInt ≠ 0 → x + 1 = pw N ∨ Wl τ x 0 N
theorem Wl.eq {τ τ' : Sg} {x l N : Nat} (h : Wl τ x l N) (e : ∀ k, gV τ' 30 0 k = gV τ 30 0 k) : Wl τ' x l N := by
  obtain ⟨p, h1, h2, h3, h4⟩ := h
  exact ⟨p, h1, h2, h3, by rw [e]; exact h4⟩
theorem TT.eq {τ τ' : Sg} {o : Int} {N : Nat} (h : TT τ o N) (e : ∀ k, gV τ' 30 0 k = gV τ 30 0 k) : TT τ' o N := by
  intro x h1 h2 h3
  rw [e] at h3
  exact (h x h1 h2 h3).imp id fun w => w.eq e
theorem TT.cast {τ : Sg} {o o' : Int} {N : Nat} (h : TT τ o N) (e : o = o') : TT τ o' N := e ▸ h
theorem TT.top {τ : Sg} {o : Int} {N : Nat} (h : o + 1 = (pw N : Int)) : TT τ o N := fun x h1 h2 _ => absurd h2 (by omega)
theorem TT.step {τ τ' : Sg} {o o' : Int} {N : Nat} (h : TT τ o N) (ho' : o' + 1 = o) (h0 : 0 ≤ o) (hN : N < 8) (hl : o.toNat < pw N) (he : ∀ k, k ≠ o.toNat → gV τ' 30 0 k = gV τ 30 0 k) (hv : (gV τ' 30 0 o.toNat).toInt ≠ 0 → o + 1 = (pw N : Int) ∨ Wl τ o.toNat 0 N) : TT τ' o' N := by
  have hp := pw_le N hN
  have key : ∀ x : Nat, o ≤ x → x < pw N → Wl τ x 0 N → Wl τ' x 0 N := by
    intro x h1 h2 ⟨p, p1, p2, p3, p4⟩
    have g := ob_gt x (by omega) p (by omega) p3
    exact ⟨p, p1, p2, p3, by rw [he _ (by omega)]; exact p4⟩
  intro x h1 h2 h3
  by_cases g : x = o.toNat
  · subst g
    rcases hv h3 with q | q
    · exact Or.inl (by omega)
    · exact Or.inr (key _ (by omega) h2 q)
  · rw [he x g] at h3
    exact (h x (by omega) h2 h3).imp id fun w => key x (by omega) h2 w
theorem Wl.lt {τ : Sg} {x l N : Nat} (h : Wl τ x l N) : l < N := by
  obtain ⟨p, h1, h2, _⟩ := h
  omega
theorem Wl.next {τ : Sg} {x l l' N : Nat} (h : Wl τ x l N) (hn : bt x l = 1 ∨ (gV τ 30 0 (ob x l)).toInt = 0) (hl : l' = l + 1) : Wl τ x l' N := by
  obtain ⟨p, h1, h2, h3, h4⟩ := h
  refine ⟨p, ?_, h2, h3, h4⟩
  by_cases g : p = l
  · subst g
    rcases hn with q | q
    · omega
    · exact absurd q h4
  · omega
theorem TT.wit {τ : Sg} {x l N : Nat} (h : TT τ (-1) N) (hc : (gV τ 30 0 x).toInt ≠ 0) (hx : x < pw N) (hN : N < 8) (hp : pcn x < N) (hl : l = 0) : Wl τ x l N := by
  subst hl
  rcases h x (by omega) hx hc with q | q
  · have e := pcn_all N hN
    rw [show pw N - 1 = x by omega] at e
    omega
  · exact q

abbrev MS_X12_hasE : List (Nat × Nat) := []
abbrev AS_X12_hasE : List Nat := []
set_option maxHeartbeats 4000000 in
set_option maxRecDepth 100000 in
theorem c_X12_hasE (l : Launch) (G : Gt) (σ : Sg) (a1 : Int32) (a2 : Int32) (hI : Inv σ) (ha1 : IV a1 0 127) (ha2 : IV a2 0 6) : Mc l G yX12_has cX12_has 2 (some .boolean) 0 0 0 0 [.int a1, .int a2] σ (PI fun r τ => Inv τ ∧ Fr MS_X12_hasE AS_X12_hasE σ τ ∧ IV r 0 1 ∧ ((r.toInt = 1 ∧ bt a1.toInt.toNat a2.toInt.toNat = 1) ∨ (r.toInt = 0 ∧ bt a1.toInt.toNat a2.toInt.toNat = 0))) := by
  refine Mc.of (L0 := [some (.int a1), some (.int a2)]) (by decide) (Nat.le_of_ble_eq_true rfl) rfl ?_
  intro p e s m args below meth c C hr hlk
  have C : Cx p s m args c cX12_has 2 "LeanTowerModel" := C
  have k0 : (0 : Int32).toInt = 0 := by decide
  have k1 : (1 : Int32).toInt = 1 := by decide
  refine m_iload_n C dX12_has_0 rfl rfl ?_
  refine m_iload_n C dX12_has_1 rfl rfl ?_
  refine m_ishr C dX12_has_2 ?_
  refine m_topi (fun x1 ex1 => ?_)
  refine m_iconst (v := 1) C dX12_has_3 (by decide) ?_
  refine m_iand C dX12_has_4 ?_
  refine m_topi (fun x2 ex2 => ?_)
  have b3 : IV x2 0 1 := by rw [ex2]; exact iv_and_r kc_1 (by decide)
  have q4 : x2.toInt = (bt a1.toInt.toNat a2.toInt.toNat : Int) := bit_i ex2 ex1 ha1 (iv_wk ha2 (by decide))
  have q5 : bt a1.toInt.toNat a2.toInt.toNat < 2 := Nat.mod_lt _ (by decide)
  refine m_iconst (v := 1) C dX12_has_5 (by decide) ?_
  refine m_icmp_ne (tgt := 13) C dX12_has_6 (by decide) (fun c6 => ?_) (fun c6 => ?_)
  · have f7 : x2.toInt ≠ 1 := by
      have q : _ := c6
      simp only [ti_nle, ti_nlt, ti_le, ti_lt, ti_eq, ti_ne, Classical.not_not, kt_1] at q
      omega
    have b8 : IV x2 0 0 := ⟨by have q1 := b3; have q2 := kc_1; omega, by have q1 := b3; have q2 := kc_1; omega⟩
    refine m_iconst (v := 0) C dX12_has_13 (by decide) ?_
    exact m_zret C hr rfl hlk (by decide) (by decide) dX12_has_14 ⟨_, rfl, hI, Fr.rf, (iv_wk kc_0 (by decide)), (by omega)⟩
  · have f9 : x2.toInt = 1 := by
      have q : _ := c6
      simp only [ti_nle, ti_nlt, ti_le, ti_lt, ti_eq, ti_ne, Classical.not_not, kt_1] at q
      omega
    have b10 : IV x2 1 1 := ⟨by have q1 := b3; have q2 := kc_1; omega, by have q1 := b3; have q2 := kc_1; omega⟩
    refine m_iconst (v := 1) C dX12_has_9 (by decide) ?_
    refine m_goto (tgt := 14) C dX12_has_10 (by decide) ?_
    exact m_zret C hr rfl hlk (by decide) (by decide) dX12_has_14 ⟨_, rfl, hI, Fr.rf, (iv_wk kc_1 (by decide)), (by omega)⟩

abbrev MS_X12_onesE : List (Nat × Nat) := []
abbrev AS_X12_onesE : List Nat := []
set_option maxHeartbeats 4000000 in
set_option maxRecDepth 100000 in
theorem c_X12_onesE (l : Launch) (G : Gt) (σ : Sg) (a1 : Int32) (hI : Inv σ) (ha1 : IV a1 0 127) : Mc l G yX12_ones cX12_ones 3 (some .int) 0 0 0 0 [.int a1] σ (PI fun r τ => Inv τ ∧ Fr MS_X12_onesE AS_X12_onesE σ τ ∧ IV r 0 7 ∧ r.toInt = (pcn a1.toInt.toNat : Int)) := by
  refine Mc.of (L0 := [some (.int a1), none, none]) (by decide) (Nat.le_of_ble_eq_true rfl) rfl ?_
  intro p e s m args below meth c C hr hlk
  have C : Cx p s m args c cX12_ones 3 "LeanTowerModel" := C
  have k0 : (0 : Int32).toInt = 0 := by decide
  have k1 : (1 : Int32).toInt = 1 := by decide
  refine m_iconst (v := 0) C dX12_ones_0 (by decide) ?_
  refine m_istore_n (L1 := [some (.int a1), some (.int 0), none]) C dX12_ones_1 rfl (by decide) rfl rfl ?_
  refine m_iconst (v := 0) C dX12_ones_2 (by decide) ?_
  refine m_istore_n (L1 := [some (.int a1), some (.int 0), some (.int 0)]) C dX12_ones_3 rfl (by decide) rfl rfl ?_
  refine m_iload_n C dX12_ones_4 rfl rfl ?_
  refine m_bipush (v := 7) C dX12_ones_5 (by decide) ?_
  refine m_icmp_ge (tgt := 24) C dX12_ones_7 (by decide) (fun c1 => ?_) (fun c1 => ?_)
  · first | exact absurd c1 (by decide) | exact absurd (by decide) c1
  · have f3 : 0 < 7 := by
      have q : _ := c1
      simp only [ti_nle, ti_nlt, ti_le, ti_lt, ti_eq, ti_ne, Classical.not_not, kt_0, kt_7] at q
      omega
    refine m_iload_n C dX12_ones_10 rfl rfl ?_
    refine m_iload_n C dX12_ones_11 rfl rfl ?_
    refine m_iload_n C dX12_ones_12 rfl rfl ?_
    refine m_ishr C dX12_ones_13 ?_
    refine m_topi (fun x4 ex4 => ?_)
    have tx4 : x4.toInt = a1.toInt := by rw [ti_shr0 ex4 (by have q := kc_0; omega)]
    have b5 : IV x4 0 127 := ⟨by have q := ha1; omega, by have q := ha1; omega⟩
    refine m_iconst (v := 1) C dX12_ones_14 (by decide) ?_
    refine m_iand C dX12_ones_15 ?_
    refine m_topi (fun x6 ex6 => ?_)
    have b7 : IV x6 0 1 := by rw [ex6]; exact iv_and_r kc_1 (by decide)
    have q8 : x6.toInt = (bt a1.toInt.toNat (0 : Int32).toInt.toNat : Int) := bit_i ex6 ex4 ha1 (iv_wk kc_0 (by decide))
    refine m_iadd C dX12_ones_16 ?_
    refine m_topi (fun x9 ex9 => ?_)
    have tx9 : x9.toInt = 0 + x6.toInt := by rw [ex9, ti_addv kc_0 b7 (by decide), kt_0]
    have b10 : IV x9 0 1 := by rw [ex9]; exact iv_add kc_0 b7 (by decide)
    refine m_istore_n (L1 := [some (.int a1), some (.int x9), some (.int 0)]) C dX12_ones_17 rfl (by decide) rfl rfl ?_
    obtain ⟨x11, ex11⟩ : ∃ y : Int32, y = 0 + 1 := ⟨_, rfl⟩
    have b12 : IV x11 1 1 := by rw [ex11]; decide
    have tx11 : x11.toInt = 1 := by rw [ex11]; decide
    obtain rfl : x11 = 1 := by rw [ex11]; decide
    refine m_iinc (v := 1) (L1 := [some (.int a1), some (.int x9), some (.int 1)]) C dX12_ones_18 rfl (by decide) (by decide) rfl rfl ?_
    refine m_goto (tgt := 4) C dX12_ones_21 (by decide) ?_
    refine m_iload_n C dX12_ones_4 rfl rfl ?_
    refine m_bipush (v := 7) C dX12_ones_5 (by decide) ?_
    refine m_icmp_ge (tgt := 24) C dX12_ones_7 (by decide) (fun c13 => ?_) (fun c13 => ?_)
    · first | exact absurd c13 (by decide) | exact absurd (by decide) c13
    · have f15 : 1 < 7 := by
        have q : _ := c13
        simp only [ti_nle, ti_nlt, ti_le, ti_lt, ti_eq, ti_ne, Classical.not_not, kt_1, kt_7] at q
        omega
      refine m_iload_n C dX12_ones_10 rfl rfl ?_
      refine m_iload_n C dX12_ones_11 rfl rfl ?_
      refine m_iload_n C dX12_ones_12 rfl rfl ?_
      refine m_ishr C dX12_ones_13 ?_
      refine m_topi (fun x16 ex16 => ?_)
      refine m_iconst (v := 1) C dX12_ones_14 (by decide) ?_
      refine m_iand C dX12_ones_15 ?_
      refine m_topi (fun x17 ex17 => ?_)
      have b18 : IV x17 0 1 := by rw [ex17]; exact iv_and_r kc_1 (by decide)
      have q19 : x17.toInt = (bt a1.toInt.toNat (1 : Int32).toInt.toNat : Int) := bit_i ex17 ex16 ha1 (iv_wk kc_1 (by decide))
      refine m_iadd C dX12_ones_16 ?_
      refine m_topi (fun x20 ex20 => ?_)
      have tx20 : x20.toInt = x9.toInt + x17.toInt := by rw [ex20, ti_addv b10 b18 (by decide)]
      have b21 : IV x20 0 2 := by rw [ex20]; exact iv_add b10 b18 (by decide)
      refine m_istore_n (L1 := [some (.int a1), some (.int x20), some (.int 1)]) C dX12_ones_17 rfl (by decide) rfl rfl ?_
      obtain ⟨x22, ex22⟩ : ∃ y : Int32, y = 1 + 1 := ⟨_, rfl⟩
      have b23 : IV x22 2 2 := by rw [ex22]; decide
      have tx22 : x22.toInt = 2 := by rw [ex22]; decide
      obtain rfl : x22 = 2 := by rw [ex22]; decide
      refine m_iinc (v := 2) (L1 := [some (.int a1), some (.int x20), some (.int 2)]) C dX12_ones_18 rfl (by decide) (by decide) rfl rfl ?_
      refine m_goto (tgt := 4) C dX12_ones_21 (by decide) ?_
      refine m_iload_n C dX12_ones_4 rfl rfl ?_
      refine m_bipush (v := 7) C dX12_ones_5 (by decide) ?_
      refine m_icmp_ge (tgt := 24) C dX12_ones_7 (by decide) (fun c24 => ?_) (fun c24 => ?_)
      · first | exact absurd c24 (by decide) | exact absurd (by decide) c24
      · have f26 : 2 < 7 := by
          have q : _ := c24
          simp only [ti_nle, ti_nlt, ti_le, ti_lt, ti_eq, ti_ne, Classical.not_not, kt_2, kt_7] at q
          omega
        refine m_iload_n C dX12_ones_10 rfl rfl ?_
        refine m_iload_n C dX12_ones_11 rfl rfl ?_
        refine m_iload_n C dX12_ones_12 rfl rfl ?_
        refine m_ishr C dX12_ones_13 ?_
        refine m_topi (fun x27 ex27 => ?_)
        refine m_iconst (v := 1) C dX12_ones_14 (by decide) ?_
        refine m_iand C dX12_ones_15 ?_
        refine m_topi (fun x28 ex28 => ?_)
        have b29 : IV x28 0 1 := by rw [ex28]; exact iv_and_r kc_1 (by decide)
        have q30 : x28.toInt = (bt a1.toInt.toNat (2 : Int32).toInt.toNat : Int) := bit_i ex28 ex27 ha1 (iv_wk kc_2 (by decide))
        refine m_iadd C dX12_ones_16 ?_
        refine m_topi (fun x31 ex31 => ?_)
        have tx31 : x31.toInt = x20.toInt + x28.toInt := by rw [ex31, ti_addv b21 b29 (by decide)]
        have b32 : IV x31 0 3 := by rw [ex31]; exact iv_add b21 b29 (by decide)
        refine m_istore_n (L1 := [some (.int a1), some (.int x31), some (.int 2)]) C dX12_ones_17 rfl (by decide) rfl rfl ?_
        obtain ⟨x33, ex33⟩ : ∃ y : Int32, y = 2 + 1 := ⟨_, rfl⟩
        have b34 : IV x33 3 3 := by rw [ex33]; decide
        have tx33 : x33.toInt = 3 := by rw [ex33]; decide
        obtain rfl : x33 = 3 := by rw [ex33]; decide
        refine m_iinc (v := 3) (L1 := [some (.int a1), some (.int x31), some (.int 3)]) C dX12_ones_18 rfl (by decide) (by decide) rfl rfl ?_
        refine m_goto (tgt := 4) C dX12_ones_21 (by decide) ?_
        refine m_iload_n C dX12_ones_4 rfl rfl ?_
        refine m_bipush (v := 7) C dX12_ones_5 (by decide) ?_
        refine m_icmp_ge (tgt := 24) C dX12_ones_7 (by decide) (fun c35 => ?_) (fun c35 => ?_)
        · first | exact absurd c35 (by decide) | exact absurd (by decide) c35
        · have f37 : 3 < 7 := by
            have q : _ := c35
            simp only [ti_nle, ti_nlt, ti_le, ti_lt, ti_eq, ti_ne, Classical.not_not, kt_3, kt_7] at q
            omega
          refine m_iload_n C dX12_ones_10 rfl rfl ?_
          refine m_iload_n C dX12_ones_11 rfl rfl ?_
          refine m_iload_n C dX12_ones_12 rfl rfl ?_
          refine m_ishr C dX12_ones_13 ?_
          refine m_topi (fun x38 ex38 => ?_)
          refine m_iconst (v := 1) C dX12_ones_14 (by decide) ?_
          refine m_iand C dX12_ones_15 ?_
          refine m_topi (fun x39 ex39 => ?_)
          have b40 : IV x39 0 1 := by rw [ex39]; exact iv_and_r kc_1 (by decide)
          have q41 : x39.toInt = (bt a1.toInt.toNat (3 : Int32).toInt.toNat : Int) := bit_i ex39 ex38 ha1 (iv_wk kc_3 (by decide))
          refine m_iadd C dX12_ones_16 ?_
          refine m_topi (fun x42 ex42 => ?_)
          have tx42 : x42.toInt = x31.toInt + x39.toInt := by rw [ex42, ti_addv b32 b40 (by decide)]
          have b43 : IV x42 0 4 := by rw [ex42]; exact iv_add b32 b40 (by decide)
          refine m_istore_n (L1 := [some (.int a1), some (.int x42), some (.int 3)]) C dX12_ones_17 rfl (by decide) rfl rfl ?_
          obtain ⟨x44, ex44⟩ : ∃ y : Int32, y = 3 + 1 := ⟨_, rfl⟩
          have b45 : IV x44 4 4 := by rw [ex44]; decide
          have tx44 : x44.toInt = 4 := by rw [ex44]; decide
          obtain rfl : x44 = 4 := by rw [ex44]; decide
          refine m_iinc (v := 4) (L1 := [some (.int a1), some (.int x42), some (.int 4)]) C dX12_ones_18 rfl (by decide) (by decide) rfl rfl ?_
          refine m_goto (tgt := 4) C dX12_ones_21 (by decide) ?_
          refine m_iload_n C dX12_ones_4 rfl rfl ?_
          refine m_bipush (v := 7) C dX12_ones_5 (by decide) ?_
          refine m_icmp_ge (tgt := 24) C dX12_ones_7 (by decide) (fun c46 => ?_) (fun c46 => ?_)
          · first | exact absurd c46 (by decide) | exact absurd (by decide) c46
          · have f48 : 4 < 7 := by
              have q : _ := c46
              simp only [ti_nle, ti_nlt, ti_le, ti_lt, ti_eq, ti_ne, Classical.not_not, kt_4, kt_7] at q
              omega
            refine m_iload_n C dX12_ones_10 rfl rfl ?_
            refine m_iload_n C dX12_ones_11 rfl rfl ?_
            refine m_iload_n C dX12_ones_12 rfl rfl ?_
            refine m_ishr C dX12_ones_13 ?_
            refine m_topi (fun x49 ex49 => ?_)
            refine m_iconst (v := 1) C dX12_ones_14 (by decide) ?_
            refine m_iand C dX12_ones_15 ?_
            refine m_topi (fun x50 ex50 => ?_)
            have b51 : IV x50 0 1 := by rw [ex50]; exact iv_and_r kc_1 (by decide)
            have q52 : x50.toInt = (bt a1.toInt.toNat (4 : Int32).toInt.toNat : Int) := bit_i ex50 ex49 ha1 (iv_wk kc_4 (by decide))
            refine m_iadd C dX12_ones_16 ?_
            refine m_topi (fun x53 ex53 => ?_)
            have tx53 : x53.toInt = x42.toInt + x50.toInt := by rw [ex53, ti_addv b43 b51 (by decide)]
            have b54 : IV x53 0 5 := by rw [ex53]; exact iv_add b43 b51 (by decide)
            refine m_istore_n (L1 := [some (.int a1), some (.int x53), some (.int 4)]) C dX12_ones_17 rfl (by decide) rfl rfl ?_
            obtain ⟨x55, ex55⟩ : ∃ y : Int32, y = 4 + 1 := ⟨_, rfl⟩
            have b56 : IV x55 5 5 := by rw [ex55]; decide
            have tx55 : x55.toInt = 5 := by rw [ex55]; decide
            obtain rfl : x55 = 5 := by rw [ex55]; decide
            refine m_iinc (v := 5) (L1 := [some (.int a1), some (.int x53), some (.int 5)]) C dX12_ones_18 rfl (by decide) (by decide) rfl rfl ?_
            refine m_goto (tgt := 4) C dX12_ones_21 (by decide) ?_
            refine m_iload_n C dX12_ones_4 rfl rfl ?_
            refine m_bipush (v := 7) C dX12_ones_5 (by decide) ?_
            refine m_icmp_ge (tgt := 24) C dX12_ones_7 (by decide) (fun c57 => ?_) (fun c57 => ?_)
            · first | exact absurd c57 (by decide) | exact absurd (by decide) c57
            · have f59 : 5 < 7 := by
                have q : _ := c57
                simp only [ti_nle, ti_nlt, ti_le, ti_lt, ti_eq, ti_ne, Classical.not_not, kt_5, kt_7] at q
                omega
              refine m_iload_n C dX12_ones_10 rfl rfl ?_
              refine m_iload_n C dX12_ones_11 rfl rfl ?_
              refine m_iload_n C dX12_ones_12 rfl rfl ?_
              refine m_ishr C dX12_ones_13 ?_
              refine m_topi (fun x60 ex60 => ?_)
              refine m_iconst (v := 1) C dX12_ones_14 (by decide) ?_
              refine m_iand C dX12_ones_15 ?_
              refine m_topi (fun x61 ex61 => ?_)
              have b62 : IV x61 0 1 := by rw [ex61]; exact iv_and_r kc_1 (by decide)
              have q63 : x61.toInt = (bt a1.toInt.toNat (5 : Int32).toInt.toNat : Int) := bit_i ex61 ex60 ha1 (iv_wk kc_5 (by decide))
              refine m_iadd C dX12_ones_16 ?_
              refine m_topi (fun x64 ex64 => ?_)
              have tx64 : x64.toInt = x53.toInt + x61.toInt := by rw [ex64, ti_addv b54 b62 (by decide)]
              have b65 : IV x64 0 6 := by rw [ex64]; exact iv_add b54 b62 (by decide)
              refine m_istore_n (L1 := [some (.int a1), some (.int x64), some (.int 5)]) C dX12_ones_17 rfl (by decide) rfl rfl ?_
              obtain ⟨x66, ex66⟩ : ∃ y : Int32, y = 5 + 1 := ⟨_, rfl⟩
              have b67 : IV x66 6 6 := by rw [ex66]; decide
              have tx66 : x66.toInt = 6 := by rw [ex66]; decide
              obtain rfl : x66 = 6 := by rw [ex66]; decide
              refine m_iinc (v := 6) (L1 := [some (.int a1), some (.int x64), some (.int 6)]) C dX12_ones_18 rfl (by decide) (by decide) rfl rfl ?_
              refine m_goto (tgt := 4) C dX12_ones_21 (by decide) ?_
              refine m_iload_n C dX12_ones_4 rfl rfl ?_
              refine m_bipush (v := 7) C dX12_ones_5 (by decide) ?_
              refine m_icmp_ge (tgt := 24) C dX12_ones_7 (by decide) (fun c68 => ?_) (fun c68 => ?_)
              · first | exact absurd c68 (by decide) | exact absurd (by decide) c68
              · have f70 : 6 < 7 := by
                  have q : _ := c68
                  simp only [ti_nle, ti_nlt, ti_le, ti_lt, ti_eq, ti_ne, Classical.not_not, kt_6, kt_7] at q
                  omega
                refine m_iload_n C dX12_ones_10 rfl rfl ?_
                refine m_iload_n C dX12_ones_11 rfl rfl ?_
                refine m_iload_n C dX12_ones_12 rfl rfl ?_
                refine m_ishr C dX12_ones_13 ?_
                refine m_topi (fun x71 ex71 => ?_)
                refine m_iconst (v := 1) C dX12_ones_14 (by decide) ?_
                refine m_iand C dX12_ones_15 ?_
                refine m_topi (fun x72 ex72 => ?_)
                have b73 : IV x72 0 1 := by rw [ex72]; exact iv_and_r kc_1 (by decide)
                have q74 : x72.toInt = (bt a1.toInt.toNat (6 : Int32).toInt.toNat : Int) := bit_i ex72 ex71 ha1 (iv_wk kc_6 (by decide))
                refine m_iadd C dX12_ones_16 ?_
                refine m_topi (fun x75 ex75 => ?_)
                have tx75 : x75.toInt = x64.toInt + x72.toInt := by rw [ex75, ti_addv b65 b73 (by decide)]
                have b76 : IV x75 0 7 := by rw [ex75]; exact iv_add b65 b73 (by decide)
                refine m_istore_n (L1 := [some (.int a1), some (.int x75), some (.int 6)]) C dX12_ones_17 rfl (by decide) rfl rfl ?_
                obtain ⟨x77, ex77⟩ : ∃ y : Int32, y = 6 + 1 := ⟨_, rfl⟩
                have b78 : IV x77 7 7 := by rw [ex77]; decide
                have tx77 : x77.toInt = 7 := by rw [ex77]; decide
                obtain rfl : x77 = 7 := by rw [ex77]; decide
                refine m_iinc (v := 7) (L1 := [some (.int a1), some (.int x75), some (.int 7)]) C dX12_ones_18 rfl (by decide) (by decide) rfl rfl ?_
                refine m_goto (tgt := 4) C dX12_ones_21 (by decide) ?_
                refine m_iload_n C dX12_ones_4 rfl rfl ?_
                refine m_bipush (v := 7) C dX12_ones_5 (by decide) ?_
                refine m_icmp_ge (tgt := 24) C dX12_ones_7 (by decide) (fun c79 => ?_) (fun c79 => ?_)
                · have f80 : 7 ≤ 7 := by
                    have q : _ := c79
                    simp only [ti_nle, ti_nlt, ti_le, ti_lt, ti_eq, ti_ne, Classical.not_not, kt_7, kt_7] at q
                    omega
                  refine m_iload_n C dX12_ones_24 rfl rfl ?_
                  exact m_iret C hr hlk (by decide) (by decide) dX12_ones_25 ⟨_, rfl, hI, Fr.rf, b76, (by show _ = ((bt a1.toInt.toNat 0 + bt a1.toInt.toNat 1 + bt a1.toInt.toNat 2 + bt a1.toInt.toNat 3 + bt a1.toInt.toNat 4 + bt a1.toInt.toNat 5 + bt a1.toInt.toNat 6 : Nat) : Int); rw [kn_0] at q8; rw [kn_1] at q19; rw [kn_2] at q30; rw [kn_3] at q41; rw [kn_4] at q52; rw [kn_5] at q63; rw [kn_6] at q74; omega)⟩
                · first | exact absurd c79 (by decide) | exact absurd (by decide) c79

abbrev MS_X12_isSafeE : List (Nat × Nat) := []
abbrev AS_X12_isSafeE : List Nat := [23]
set_option maxHeartbeats 4000000 in
set_option maxRecDepth 100000 in
theorem c_X12_isSafeE (l : Launch) (G : Gt) (σ : Sg) (a1 : Int32) (hI : Inv σ) : Mc l G yX12_isSafe cX12_isSafe 3 (some .boolean) 3 67 0 0 [.ref (G.1 22 0), .int a1] σ (PI fun r τ => Inv τ ∧ Fr MS_X12_isSafeE AS_X12_isSafeE σ τ ∧ IV r 0 1 ∧ (gV τ 23 0 2).toInt = (gV σ 23 0 2).toInt) := by
  refine Mc.of (L0 := [some (.ref (G.1 22 0)), some (.int a1), none]) (by decide) (Nat.le_of_ble_eq_true rfl) rfl ?_
  intro p e s m args below meth c C hr hlk
  have C : Cx p s m args c cX12_isSafe 3 "LeanTowerModel" := C
  have k0 : (0 : Int32).toInt = 0 := by decide
  have k1 : (1 : Int32).toInt = 1 := by decide
  have J2 : ∀ (n : Nat) (τ : Sg) (y2 : Int32), Inv τ → Fr MS_X12_isSafeE AS_X12_isSafeE σ τ → IV a1 (-2147483648) 2147483647 → IV y2 0 7 → ((gV τ 23 0 2).toInt = (gV σ 23 0 2).toInt) → (7 - y2.toInt).toNat < n → MW p l e { frames := 3, cells := 0, slots := 0, locals := 67 } s m args below meth c (MQ below (QP G (PI fun r τ => Inv τ ∧ Fr MS_X12_isSafeE AS_X12_isSafeE σ τ ∧ IV r 0 1 ∧ (gV τ 23 0 2).toInt = (gV σ 23 0 2).toInt)) args s 0 0 (aG G)) 3 G 0 0 2 [some (.ref (G.1 22 0)), some (.int a1), some (.int y2)] [] τ := by
    intro n
    induction n with
    | zero => intro τ y2 iτ fτ b_a1 b_y2 n1 hm; exact absurd hm (Nat.not_lt_zero _)
    | succ n ih2 =>
      intro τ y2 iτ fτ b_a1 b_y2 n1 hm2
      have u2 : IV (gV τ 23 0 2) 0 7 := iτ.1 23 0 2
      refine m_iload_n C dX12_isSafe_2 rfl rfl ?_
      refine m_aload_n C dX12_isSafe_3 rfl rfl ?_
      refine g_22_0 C q4_116 dX12_isSafe_4 ?_
      refine m_iconst (v := 2) C dX12_isSafe_7 (by decide) ?_
      refine al_23 C kc_2 (by decide) kn_2 dX12_isSafe_8 ?_
      refine m_eqs (w := (gV τ 23 0 2)) rfl ?_
      refine m_icmp_ge (tgt := 49) C dX12_isSafe_9 (by decide) (fun c3 => ?_) (fun c3 => ?_)
      · have f4 : (gV τ 23 0 2).toInt ≤ y2.toInt := by
          have q : _ := c3
          simp only [ti_nle, ti_nlt, ti_le, ti_lt, ti_eq, ti_ne, Classical.not_not] at q
          omega
        refine m_aload_n C dX12_isSafe_49 rfl rfl ?_
        refine m_sipush (v := 200) C dX12_isSafe_50 (by decide) ?_
        have q5 := kt_200
        refine m_callV (n := 1) (ci := 11) (st := []) C (c_X12_worstOf l G τ (200) iτ (iv_wk kc_200 (by decide)) (by omega)) (by decide) (by decide) rfl rfl rfl q5_78 q5_75 q5_77 q0_40 q1_7 (by decide +kernel) rfl (by decide) (by decide) rfl (Nat.le_of_ble_eq_true rfl) dX12_isSafe_53 ?_
        rintro _ τ6 ⟨x9, rfl, i7, f8, b10⟩
        have g11 : Fr MS_X12_isSafeE AS_X12_isSafeE σ τ6 := Fr.call (fτ) f8 (by decide)
        show MW p l e _ s m args below meth c _ 3 G 0 0 56 [some (.ref (G.1 22 0)), some (.int a1), some (.int y2)] [.int x9] τ6
        refine m_aload_n C dX12_isSafe_56 rfl rfl ?_
        refine g_22_0 C q4_116 dX12_isSafe_57 ?_
        refine m_iconst (v := 1) C dX12_isSafe_60 (by decide) ?_
        refine al_23 C kc_1 (by decide) kn_1 dX12_isSafe_61 ?_
        refine m_topi (fun x13 ex13 => ?_)
        refine m_icmp_gt (tgt := 69) C dX12_isSafe_62 (by decide) (fun c14 => ?_) (fun c14 => ?_)
        · have f15 : x13.toInt < x9.toInt := by
            have q : _ := c14
            simp only [ti_nle, ti_nlt, ti_le, ti_lt, ti_eq, ti_ne, Classical.not_not] at q
            omega
          have b16 : IV x13 (-2147483648) 2147483646 := ⟨by have q1 := (iv_any x13); have q2 := b10; omega, by have q1 := (iv_any x13); have q2 := b10; omega⟩
          have b17 : IV x9 (-2147483647) 2147483647 := ⟨by have q1 := (iv_any x13); have q2 := b10; omega, by have q1 := (iv_any x13); have q2 := b10; omega⟩
          refine m_iconst (v := 0) C dX12_isSafe_69 (by decide) ?_
          have q18 : (gV τ6 23 0 2).toInt = (gV τ 23 0 2).toInt := congrArg Int32.toInt (show (gV τ6 23 0 2) = (gV τ 23 0 2) from (show gV τ6 23 0 2 = (gV τ 23 0 2) from (f8.1 23 0 (2) (by decide) (by decide)).trans rfl))
          exact m_zret C hr rfl hlk (by decide) (by decide) dX12_isSafe_70 ⟨_, rfl, i7, g11, (iv_wk kc_0 (by decide)), (by omega)⟩
        · have f19 : x9.toInt ≤ x13.toInt := by
            have q : _ := c14
            simp only [ti_nle, ti_nlt, ti_le, ti_lt, ti_eq, ti_ne, Classical.not_not] at q
            omega
          refine m_iconst (v := 1) C dX12_isSafe_65 (by decide) ?_
          refine m_goto (tgt := 70) C dX12_isSafe_66 (by decide) ?_
          have q20 : (gV τ6 23 0 2).toInt = (gV τ 23 0 2).toInt := congrArg Int32.toInt (show (gV τ6 23 0 2) = (gV τ 23 0 2) from (show gV τ6 23 0 2 = (gV τ 23 0 2) from (f8.1 23 0 (2) (by decide) (by decide)).trans rfl))
          exact m_zret C hr rfl hlk (by decide) (by decide) dX12_isSafe_70 ⟨_, rfl, i7, g11, (iv_wk kc_1 (by decide)), (by omega)⟩
      · have f21 : y2.toInt < (gV τ 23 0 2).toInt := by
          have q : _ := c3
          simp only [ti_nle, ti_nlt, ti_le, ti_lt, ti_eq, ti_ne, Classical.not_not] at q
          omega
        have b22 : IV y2 0 6 := ⟨by have q1 := b_y2; have q2 := u2; omega, by have q1 := b_y2; have q2 := u2; omega⟩
        have b23 : IV (gV τ 23 0 2) 1 7 := ⟨by have q1 := b_y2; have q2 := u2; omega, by have q1 := b_y2; have q2 := u2; omega⟩
        refine m_aload_n C dX12_isSafe_12 rfl rfl ?_
        refine g_22_0 C q4_116 dX12_isSafe_13 ?_
        refine m_sipush (v := 224) C dX12_isSafe_16 (by decide) ?_
        refine m_iload_n C dX12_isSafe_19 rfl rfl ?_
        refine m_iadd C dX12_isSafe_20 ?_
        refine m_topi (fun x24 ex24 => ?_)
        have tx24 : x24.toInt = 224 + y2.toInt := by rw [ex24, ti_addv kc_224 b22 (by decide), kt_224]
        have b25 : IV x24 224 230 := by rw [ex24]; exact iv_add kc_224 b22 (by decide)
        refine m_iload_n C dX12_isSafe_21 rfl rfl ?_
        refine m_iload_n C dX12_isSafe_22 rfl rfl ?_
        refine m_callS (n := 2) (st := [.int x24, .ref (G.1 23 0)]) C (c_X12_has l G τ (a1) (y2) iτ ) q5_142 q5_140 q5_141 q1_7 (by decide +kernel) rfl (by decide) (by decide) rfl (Nat.le_of_ble_eq_true rfl) dX12_isSafe_23 ?_
        rintro _ τ26 ⟨x29, rfl, i27, f28, b30⟩
        have g31 : Fr MS_X12_isSafeE AS_X12_isSafeE σ τ26 := Fr.call (fτ) f28 (by decide)
        show MW p l e _ s m args below meth c _ 3 G 0 0 26 [some (.ref (G.1 22 0)), some (.int a1), some (.int y2)] [.int x29, .int x24, .ref (G.1 23 0)] τ26
        refine m_if_eq (tgt := 33) C dX12_isSafe_26 (by decide) (fun c33 => ?_) (fun c33 => ?_)
        · have f34 : x29.toInt = 0 := by
            have q : _ := c33
            simp only [ti_nle, ti_nlt, ti_le, ti_lt, ti_eq, ti_ne, Classical.not_not, kt_0] at q
            omega
          have b35 : IV x29 0 0 := ⟨by have q1 := b30; have q2 := kc_0; omega, by have q1 := b30; have q2 := kc_0; omega⟩
          refine m_aload_n C dX12_isSafe_33 rfl rfl ?_
          refine g_22_0 C q4_116 dX12_isSafe_34 ?_
          refine m_bipush (v := 24) C dX12_isSafe_37 (by decide) ?_
          refine m_iload_n C dX12_isSafe_39 rfl rfl ?_
          refine m_iadd C dX12_isSafe_40 ?_
          refine m_topi (fun x36 ex36 => ?_)
          have tx36 : x36.toInt = 24 + y2.toInt := by rw [ex36, ti_addv kc_24 b22 (by decide), kt_24]
          have b37 : IV x36 24 30 := by rw [ex36]; exact iv_add kc_24 b22 (by decide)
          refine al_23 C b37 (by decide) rfl dX12_isSafe_41 ?_
          refine m_topi (fun x38 ex38 => ?_)
          refine as_23 C b25 (by decide) rfl dX12_isSafe_42 ?_
          refine m_tops (fun τ39 eτ39 => ?_)
          have i40 : Inv τ39 := eτ39 ▸ Inv.putW i27 (by omega)
          have f41 : Fr MS_X12_isSafeE AS_X12_isSafeE σ τ39 := eτ39 ▸ Fr.put (g31) (Or.inr (by decide))
          obtain ⟨x42, ex42⟩ : ∃ y : Int32, y = y2 + 1 := ⟨_, rfl⟩
          have tx42 : x42.toInt = y2.toInt + 1 := by rw [ex42, ti_addv b22 kc_1 (by decide), kt_1]
          have b43 : IV x42 1 7 := by rw [ex42]; exact iv_add b22 kc_1 (by decide)
          refine m_iinc (v := x42) (L1 := [some (.ref (G.1 22 0)), some (.int a1), some (.int x42)]) C dX12_isSafe_43 rfl (by rw [ex42]; rfl) (by decide) rfl rfl ?_
          refine m_goto (tgt := 2) C dX12_isSafe_46 (by decide) ?_
          have q44 : (gV τ39 23 0 2).toInt = (gV τ 23 0 2).toInt := congrArg Int32.toInt (show (gV τ39 23 0 2) = (gV τ 23 0 2) from (show gV τ39 23 0 2 = (gV τ 23 0 2) from (gV_putn eτ39 (Or.inr (Or.inr (by omega)))).trans (show gV τ26 23 0 2 = (gV τ 23 0 2) from (f28.1 23 0 (2) (by decide) (by decide)).trans rfl)))
          exact ih2 τ39 x42 i40 f41 b_a1 (iv_wk b43 (by decide)) (by omega) (by have q := hm2; omega)
        · have f45 : x29.toInt ≠ 0 := by
            have q : _ := c33
            simp only [ti_nle, ti_nlt, ti_le, ti_lt, ti_eq, ti_ne, Classical.not_not, kt_0] at q
            omega
          have b46 : IV x29 1 1 := ⟨by have q1 := b30; have q2 := kc_0; omega, by have q1 := b30; have q2 := kc_0; omega⟩
          refine m_iconst (v := (-1)) C dX12_isSafe_29 (by decide) ?_
          refine m_goto (tgt := 42) C dX12_isSafe_30 (by decide) ?_
          refine as_23 C b25 (by decide) rfl dX12_isSafe_42 ?_
          refine m_tops (fun τ47 eτ47 => ?_)
          have i48 : Inv τ47 := eτ47 ▸ Inv.putW i27 (by omega)
          have f49 : Fr MS_X12_isSafeE AS_X12_isSafeE σ τ47 := eτ47 ▸ Fr.put (g31) (Or.inr (by decide))
          obtain ⟨x50, ex50⟩ : ∃ y : Int32, y = y2 + 1 := ⟨_, rfl⟩
          have tx50 : x50.toInt = y2.toInt + 1 := by rw [ex50, ti_addv b22 kc_1 (by decide), kt_1]
          have b51 : IV x50 1 7 := by rw [ex50]; exact iv_add b22 kc_1 (by decide)
          refine m_iinc (v := x50) (L1 := [some (.ref (G.1 22 0)), some (.int a1), some (.int x50)]) C dX12_isSafe_43 rfl (by rw [ex50]; rfl) (by decide) rfl rfl ?_
          refine m_goto (tgt := 2) C dX12_isSafe_46 (by decide) ?_
          have q52 : (gV τ47 23 0 2).toInt = (gV τ 23 0 2).toInt := congrArg Int32.toInt (show (gV τ47 23 0 2) = (gV τ 23 0 2) from (show gV τ47 23 0 2 = (gV τ 23 0 2) from (gV_putn eτ47 (Or.inr (Or.inr (by omega)))).trans (show gV τ26 23 0 2 = (gV τ 23 0 2) from (f28.1 23 0 (2) (by decide) (by decide)).trans rfl)))
          exact ih2 τ47 x50 i48 f49 b_a1 (iv_wk b51 (by decide)) (by omega) (by have q := hm2; omega)
  have u53 : IV (gV σ 23 0 2) 0 7 := hI.1 23 0 2
  refine m_iconst (v := 0) C dX12_isSafe_0 (by decide) ?_
  refine m_istore_n (L1 := [some (.ref (G.1 22 0)), some (.int a1), some (.int 0)]) C dX12_isSafe_1 rfl (by decide) rfl rfl ?_
  exact J2 ((7 - (0 : Int32).toInt).toNat + 1) σ 0 hI Fr.rf (iv_any a1) (iv_wk kc_0 (by decide)) (by omega) (Nat.lt_succ_self _)

abbrev MS_X12_rescue : List (Nat × Nat) := []
abbrev AS_X12_rescue : List Nat := [23, 30]
set_option maxHeartbeats 4000000 in
set_option maxRecDepth 100000 in
theorem c_X12_rescue (l : Launch) (G : Gt) (σ : Sg) (a1 : Int32) (hI : Inv σ) : Mc l G yX12_rescue cX12_rescue 7 (some .int) 5 140 0 0 [.ref (G.1 22 0), .int a1] σ (PI fun r τ => Inv τ ∧ Fr MS_X12_rescue AS_X12_rescue σ τ ∧ IV r (-2147483648) 2147483647) := by
  refine Mc.of (L0 := [some (.ref (G.1 22 0)), some (.int a1), none, none, none, none, none]) (by decide) (Nat.le_of_ble_eq_true rfl) rfl ?_
  intro p e s m args below meth c C hr hlk
  have C : Cx p s m args c cX12_rescue 7 "LeanTowerModel" := C
  have k0 : (0 : Int32).toInt = 0 := by decide
  have k1 : (1 : Int32).toInt = 1 := by decide
  have hN : IV (gV σ 23 0 2) 0 7 := hI.1 23 0 2
  have hN8 : (gV σ 23 0 2).toInt.toNat < 8 := by have := hN.1; have := hN.2; omega
  have hpw := pw_le _ hN8
  have J224 : ∀ (n : Nat) (τ : Sg) (y4 : Int32) (y5 : Int32) (y6 : Int32), Inv τ → Fr MS_X12_rescue AS_X12_rescue σ τ → IV a1 0 6 → IV y4 0 127 → IV y5 0 6 → IV y6 0 7 → (TT τ (-1) (gV σ 23 0 2).toInt.toNat) → ((gV τ 30 0 y4.toInt.toNat).toInt ≠ 0) → (y4.toInt.toNat < pw (gV σ 23 0 2).toInt.toNat) → ((pcn y4.toInt.toNat : Int) + a1.toInt + 1 ≤ ((gV σ 23 0 2).toInt.toNat : Int) + y6.toInt) → (7 - y6.toInt).toNat < n → MW p l e { frames := 5, cells := 0, slots := 0, locals := 140 } s m args below meth c (MQ below (QP G (PI fun r τ => Inv τ ∧ Fr MS_X12_rescue AS_X12_rescue σ τ ∧ IV r (-2147483648) 2147483647)) args s 0 0 (aG G)) 7 G 0 0 224 [some (.ref (G.1 22 0)), some (.int a1), none, none, some (.int y4), some (.int y5), some (.int y6)] [] τ := by
    intro n
    induction n with
    | zero => intro τ y4 y5 y6 iτ fτ b_a1 b_y4 b_y5 b_y6 nT3 nC n1 n2 hm; exact absurd hm (Nat.not_lt_zero _)
    | succ n ih224 =>
      intro τ y4 y5 y6 iτ fτ b_a1 b_y4 b_y5 b_y6 nT3 nC n1 n2 hm224
      have J233 : ∀ (n : Nat) (τ : Sg) (y5 : Int32), Inv τ → Fr MS_X12_rescue AS_X12_rescue σ τ → IV a1 0 6 → IV y4 0 127 → IV y5 0 7 → IV y6 0 6 → (TT τ (-1) (gV σ 23 0 2).toInt.toNat) → (Wl τ y4.toInt.toNat y5.toInt.toNat (gV σ 23 0 2).toInt.toNat) → (7 - y5.toInt).toNat < n → MW p l e { frames := 5, cells := 0, slots := 0, locals := 140 } s m args below meth c (MQ below (QP G (PI fun r τ => Inv τ ∧ Fr MS_X12_rescue AS_X12_rescue σ τ ∧ IV r (-2147483648) 2147483647)) args s 0 0 (aG G)) 7 G 0 0 233 [some (.ref (G.1 22 0)), some (.int a1), none, none, some (.int y4), some (.int y5), some (.int y6)] [] τ := by
        intro n
        induction n with
        | zero => intro τ y5 iτ fτ b_a1 b_y4 b_y5 b_y6 nT4 nL hm; exact absurd hm (Nat.not_lt_zero _)
        | succ n ih233 =>
          intro τ y5 iτ fτ b_a1 b_y4 b_y5 b_y6 nT4 nL hm233
          have u3 : IV (gV τ 23 0 2) 0 7 := iτ.1 23 0 2
          have q4 := nL.lt
          have b5 : IV y5 0 6 := ⟨by omega, by omega⟩
          refine m_iload C dX12_rescue_233 rfl ?_
          refine m_iload C dX12_rescue_235 rfl ?_
          refine m_callS (n := 2) (st := []) C (c_X12_hasE l G τ (y4) (y5) iτ b_y4 b5) q5_142 q5_140 q5_141 q1_7 (by decide +kernel) rfl (by decide) (by decide) rfl (Nat.le_of_ble_eq_true rfl) dX12_rescue_237 ?_
          rintro _ τ6 ⟨x9, rfl, i7, f8, b10, h12⟩
          have g11 : Fr MS_X12_rescue AS_X12_rescue σ τ6 := Fr.call (fτ) f8 (by decide)
          have q13 : (gV τ6 23 0 2).toInt = (gV τ 23 0 2).toInt := congrArg Int32.toInt (show (gV τ6 23 0 2) = (gV τ 23 0 2) from (show gV τ6 23 0 2 = (gV τ 23 0 2) from (f8.1 23 0 (2) (by decide) (by decide)).trans rfl))
          show MW p l e _ s m args below meth c _ 7 G 0 0 240 [some (.ref (G.1 22 0)), some (.int a1), none, none, some (.int y4), some (.int y5), some (.int y6)] [.int x9] τ6
          refine m_if_ne (tgt := 258) C dX12_rescue_240 (by decide) (fun c14 => ?_) (fun c14 => ?_)
          · have f15 : x9.toInt ≠ 0 := by
              have q : _ := c14
              simp only [ti_nle, ti_nlt, ti_le, ti_lt, ti_eq, ti_ne, Classical.not_not, kt_0] at q
              omega
            have b16 : IV x9 1 1 := ⟨by have q1 := b10; have q2 := kc_0; omega, by have q1 := b10; have q2 := kc_0; omega⟩
            obtain ⟨x17, ex17⟩ : ∃ y : Int32, y = y5 + 1 := ⟨_, rfl⟩
            have tx17 : x17.toInt = y5.toInt + 1 := by rw [ex17, ti_addv b5 kc_1 (by decide), kt_1]
            have b18 : IV x17 1 7 := by rw [ex17]; exact iv_add b5 kc_1 (by decide)
            refine m_iinc (v := x17) (L1 := [some (.ref (G.1 22 0)), some (.int a1), none, none, some (.int y4), some (.int x17), some (.int y6)]) C dX12_rescue_258 rfl (by rw [ex17]; rfl) (by decide) rfl rfl ?_
            refine m_goto (tgt := 233) C dX12_rescue_261 (by decide) ?_
            exact ih233 τ6 x17 i7 g11 b_a1 b_y4 (iv_wk b18 (by decide)) b_y6 (nT4.eq (fun k => (f8.1 30 0 k (by simp) (by decide)).trans ((fun _ => rfl) k))) ((nL.eq (fun k => (f8.1 30 0 k (by simp) (by decide)).trans ((fun _ => rfl) k))).next (by omega) (by omega)) (by have q := hm233; omega)
          · have f19 : x9.toInt = 0 := by
              have q : _ := c14
              simp only [ti_nle, ti_nlt, ti_le, ti_lt, ti_eq, ti_ne, Classical.not_not, kt_0] at q
              omega
            have b20 : IV x9 0 0 := ⟨by have q1 := b10; have q2 := kc_0; omega, by have q1 := b10; have q2 := kc_0; omega⟩
            refine m_aload_n C dX12_rescue_243 rfl rfl ?_
            refine g_22_18 C q4_134 dX12_rescue_244 ?_
            refine m_iload C dX12_rescue_247 rfl ?_
            refine m_iconst (v := 1) C dX12_rescue_249 (by decide) ?_
            refine m_iload C dX12_rescue_250 rfl ?_
            refine m_ishl C dX12_rescue_252 ?_
            refine m_topi (fun x21 ex21 => ?_)
            have b22 : IV x21 1 64 := by rw [ex21]; exact iv_shl1 b5 (by decide)
            refine m_ior C dX12_rescue_253 ?_
            refine m_topi (fun x23 ex23 => ?_)
            have b24 : IV x23 0 127 := by rw [ex23]; exact iv_or 7 b_y4 b22 (by decide)
            have q25 : x23.toInt.toNat = ob y4.toInt.toNat y5.toInt.toNat := or_i ex23 ex21 b_y4 b5
            refine al_30 C b24 (by decide) rfl dX12_rescue_254 ?_
            refine m_topi (fun x26 ex26 => ?_)
            have q27 : (gV τ6 30 0 (ob y4.toInt.toNat y5.toInt.toNat)).toInt = x26.toInt := by rw [← q25, ← ex26]
            refine m_if_ne (tgt := 264) C dX12_rescue_255 (by decide) (fun c28 => ?_) (fun c28 => ?_)
            · have f29 : x26.toInt ≠ 0 := by
                have q : _ := c28
                simp only [ti_nle, ti_nlt, ti_le, ti_lt, ti_eq, ti_ne, Classical.not_not, kt_0] at q
                omega
              refine m_iload C dX12_rescue_264 rfl ?_
              refine m_iconst (v := 1) C dX12_rescue_266 (by decide) ?_
              refine m_iload C dX12_rescue_267 rfl ?_
              refine m_ishl C dX12_rescue_269 ?_
              refine m_topi (fun x30 ex30 => ?_)
              have b31 : IV x30 1 64 := by rw [ex30]; exact iv_shl1 b5 (by decide)
              refine m_ior C dX12_rescue_270 ?_
              refine m_topi (fun x32 ex32 => ?_)
              have b33 : IV x32 0 127 := by rw [ex32]; exact iv_or 7 b_y4 b31 (by decide)
              have q34 : x32.toInt.toNat = ob y4.toInt.toNat y5.toInt.toNat := or_i ex32 ex30 b_y4 b5
              have q35 : x32.toInt.toNat < pw (gV σ 23 0 2).toInt.toNat := by rw [q34]; exact ob_lt (by omega) (by omega)
              have q36 : pcn x32.toInt.toNat = pcn y4.toInt.toNat + 1 := by rw [q34]; exact pcn_ob _ (by omega) _ (by omega) (by omega)
              refine m_istore (L1 := [some (.ref (G.1 22 0)), some (.int a1), none, none, some (.int x32), some (.int y5), some (.int y6)]) C dX12_rescue_271 (by decide) rfl rfl ?_
              obtain ⟨x37, ex37⟩ : ∃ y : Int32, y = y6 + 1 := ⟨_, rfl⟩
              have tx37 : x37.toInt = y6.toInt + 1 := by rw [ex37, ti_addv b_y6 kc_1 (by decide), kt_1]
              have b38 : IV x37 1 7 := by rw [ex37]; exact iv_add b_y6 kc_1 (by decide)
              refine m_iinc (v := x37) (L1 := [some (.ref (G.1 22 0)), some (.int a1), none, none, some (.int x32), some (.int y5), some (.int x37)]) C dX12_rescue_273 rfl (by rw [ex37]; rfl) (by decide) rfl rfl ?_
              refine m_goto (tgt := 224) C dX12_rescue_276 (by decide) ?_
              exact ih224 τ6 x32 y5 x37 i7 g11 b_a1 b33 b5 (iv_wk b38 (by decide)) (nT4.eq (fun k => (f8.1 30 0 k (by simp) (by decide)).trans ((fun _ => rfl) k))) (by rw [q34]; omega) (by omega) (by omega) (by have q := hm224; omega)
            · have f39 : x26.toInt = 0 := by
                have q : _ := c28
                simp only [ti_nle, ti_nlt, ti_le, ti_lt, ti_eq, ti_ne, Classical.not_not, kt_0] at q
                omega
              have b40 : IV x26 0 0 := ⟨by have q1 := (iv_any x26); have q2 := kc_0; omega, by have q1 := (iv_any x26); have q2 := kc_0; omega⟩
              obtain ⟨x41, ex41⟩ : ∃ y : Int32, y = y5 + 1 := ⟨_, rfl⟩
              have tx41 : x41.toInt = y5.toInt + 1 := by rw [ex41, ti_addv b5 kc_1 (by decide), kt_1]
              have b42 : IV x41 1 7 := by rw [ex41]; exact iv_add b5 kc_1 (by decide)
              refine m_iinc (v := x41) (L1 := [some (.ref (G.1 22 0)), some (.int a1), none, none, some (.int y4), some (.int x41), some (.int y6)]) C dX12_rescue_258 rfl (by rw [ex41]; rfl) (by decide) rfl rfl ?_
              refine m_goto (tgt := 233) C dX12_rescue_261 (by decide) ?_
              exact ih233 τ6 x41 i7 g11 b_a1 b_y4 (iv_wk b42 (by decide)) b_y6 (nT4.eq (fun k => (f8.1 30 0 k (by simp) (by decide)).trans ((fun _ => rfl) k))) ((nL.eq (fun k => (f8.1 30 0 k (by simp) (by decide)).trans ((fun _ => rfl) k))).next (by omega) (by omega)) (by have q := hm233; omega)
      have u43 : IV (gV τ 23 0 2) 0 7 := iτ.1 23 0 2
      refine m_iload C dX12_rescue_224 rfl ?_
      refine m_iload_n C dX12_rescue_226 rfl rfl ?_
      refine m_icmp_gt (tgt := 279) C dX12_rescue_227 (by decide) (fun c44 => ?_) (fun c44 => ?_)
      · have f45 : a1.toInt < y6.toInt := by
          have q : _ := c44
          simp only [ti_nle, ti_nlt, ti_le, ti_lt, ti_eq, ti_ne, Classical.not_not] at q
          omega
        have b46 : IV y6 1 7 := ⟨by have q1 := b_a1; have q2 := b_y6; omega, by have q1 := b_a1; have q2 := b_y6; omega⟩
        refine m_iload C dX12_rescue_279 rfl ?_
        exact m_iret C hr hlk (by decide) (by decide) dX12_rescue_281 ⟨_, rfl, iτ, fτ, (iv_wk b_y5 (by decide))⟩
      · have f47 : y6.toInt ≤ a1.toInt := by
          have q : _ := c44
          simp only [ti_nle, ti_nlt, ti_le, ti_lt, ti_eq, ti_ne, Classical.not_not] at q
          omega
        have b48 : IV y6 0 6 := ⟨by have q1 := b_y6; have q2 := b_a1; omega, by have q1 := b_y6; have q2 := b_a1; omega⟩
        refine m_iconst (v := 0) C dX12_rescue_230 (by decide) ?_
        refine m_istore (L1 := [some (.ref (G.1 22 0)), some (.int a1), none, none, some (.int y4), some (.int 0), some (.int y6)]) C dX12_rescue_231 (by decide) rfl rfl ?_
        exact J233 ((7 - (0 : Int32).toInt).toNat + 1) τ 0 iτ fτ b_a1 b_y4 (iv_wk kc_0 (by decide)) b48 (nT3.eq (fun _ => rfl)) (nT3.wit nC (by omega) (by omega) (by omega) kn_0) (Nat.lt_succ_self _)
  have J81 : ∀ (n : Nat) (τ : Sg) (y2 : Int32) (y3 : Int32) (y4 : Int32), Inv τ → Fr MS_X12_rescue AS_X12_rescue σ τ → IV a1 0 2147483647 → IV y2 0 127 → IV y3 0 127 → IV y4 (-1) 127 → ((gV τ 23 0 2).toInt = (gV σ 23 0 2).toInt) → (y2.toInt.toNat < pw (gV σ 23 0 2).toInt.toNat) → (y3.toInt + 1 = (pw (gV σ 23 0 2).toInt.toNat : Int)) → (y4.toInt ≤ y3.toInt) → (TT τ y4.toInt (gV σ 23 0 2).toInt.toNat) → (y4.toInt - (-1)).toNat < n → MW p l e { frames := 5, cells := 0, slots := 0, locals := 140 } s m args below meth c (MQ below (QP G (PI fun r τ => Inv τ ∧ Fr MS_X12_rescue AS_X12_rescue σ τ ∧ IV r (-2147483648) 2147483647)) args s 0 0 (aG G)) 7 G 0 0 81 [some (.ref (G.1 22 0)), some (.int a1), some (.int y2), some (.int y3), some (.int y4), none, none] [] τ := by
    intro n
    induction n with
    | zero => intro τ y2 y3 y4 iτ fτ b_a1 b_y2 b_y3 b_y4 n49 n50 n51 n52 nT hm; exact absurd hm (Nat.not_lt_zero _)
    | succ n ih81 =>
      intro τ y2 y3 y4 iτ fτ b_a1 b_y2 b_y3 b_y4 n49 n50 n51 n52 nT hm81
      have J102 : ∀ (n : Nat) (τ : Sg) (y5 : Int32) (y6 : Int32), Inv τ → Fr MS_X12_rescue AS_X12_rescue σ τ → IV a1 0 2147483647 → IV y2 0 127 → IV y3 0 127 → IV y4 0 127 → IV y5 0 1 → IV y6 0 7 → ((gV τ 23 0 2).toInt = (gV σ 23 0 2).toInt) → (TT τ y4.toInt (gV σ 23 0 2).toInt.toNat) → (y5.toInt = 0 ∨ y4.toInt + 1 = (pw (gV σ 23 0 2).toInt.toNat : Int) ∨ Wl τ y4.toInt.toNat 0 (gV σ 23 0 2).toInt.toNat) → (7 - y6.toInt).toNat < n → MW p l e { frames := 5, cells := 0, slots := 0, locals := 140 } s m args below meth c (MQ below (QP G (PI fun r τ => Inv τ ∧ Fr MS_X12_rescue AS_X12_rescue σ τ ∧ IV r (-2147483648) 2147483647)) args s 0 0 (aG G)) 7 G 0 0 102 [some (.ref (G.1 22 0)), some (.int a1), some (.int y2), some (.int y3), some (.int y4), some (.int y5), some (.int y6)] [] τ := by
        intro n
        induction n with
        | zero => intro τ y5 y6 iτ fτ b_a1 b_y2 b_y3 b_y4 b_y5 b_y6 n53 nT2 nW hm; exact absurd hm (Nat.not_lt_zero _)
        | succ n ih102 =>
          intro τ y5 y6 iτ fτ b_a1 b_y2 b_y3 b_y4 b_y5 b_y6 n53 nT2 nW hm102
          have u54 : IV (gV τ 23 0 2) 0 7 := iτ.1 23 0 2
          refine m_iload C dX12_rescue_102 rfl ?_
          refine m_aload_n C dX12_rescue_104 rfl rfl ?_
          refine g_22_0 C q4_116 dX12_rescue_105 ?_
          refine m_iconst (v := 2) C dX12_rescue_108 (by decide) ?_
          refine al_23 C kc_2 (by decide) kn_2 dX12_rescue_109 ?_
          refine m_eqs (w := (gV τ 23 0 2)) rfl ?_
          refine m_icmp_ge (tgt := 156) C dX12_rescue_110 (by decide) (fun c55 => ?_) (fun c55 => ?_)
          · have f56 : (gV τ 23 0 2).toInt ≤ y6.toInt := by
              have q : _ := c55
              simp only [ti_nle, ti_nlt, ti_le, ti_lt, ti_eq, ti_ne, Classical.not_not] at q
              omega
            refine m_aload_n C dX12_rescue_156 rfl rfl ?_
            refine g_22_18 C q4_134 dX12_rescue_157 ?_
            refine m_iload C dX12_rescue_160 rfl ?_
            refine m_iload C dX12_rescue_162 rfl ?_
            refine m_if_eq (tgt := 180) C dX12_rescue_164 (by decide) (fun c57 => ?_) (fun c57 => ?_)
            · have f58 : y5.toInt = 0 := by
                have q : _ := c57
                simp only [ti_nle, ti_nlt, ti_le, ti_lt, ti_eq, ti_ne, Classical.not_not, kt_0] at q
                omega
              have b59 : IV y5 0 0 := ⟨by have q1 := b_y5; have q2 := kc_0; omega, by have q1 := b_y5; have q2 := kc_0; omega⟩
              refine m_iconst (v := 0) C dX12_rescue_180 (by decide) ?_
              refine as_30 C b_y4 (by decide) rfl dX12_rescue_181 ?_
              obtain ⟨x60, ex60⟩ : ∃ y : Int32, y = vp_nar .boolean 0 := ⟨_, rfl⟩
              rw [← ex60]
              refine m_tops (fun τ61 eτ61 => ?_)
              have i62 : Inv τ61 := eτ61 ▸ Inv.putF iτ (by decide) rfl
              have f63 : Fr MS_X12_rescue AS_X12_rescue σ τ61 := eτ61 ▸ Fr.put (fτ) (Or.inr (by decide))
              obtain ⟨x64, ex64⟩ : ∃ y : Int32, y = y4 + (-1) := ⟨_, rfl⟩
              have tx64 : x64.toInt = y4.toInt + (-1) := by rw [ex64, ti_addv b_y4 kc_m1 (by decide), kt_m1]
              have b65 : IV x64 (-1) 126 := by rw [ex64]; exact iv_add b_y4 kc_m1 (by decide)
              refine m_iinc (v := x64) (L1 := [some (.ref (G.1 22 0)), some (.int a1), some (.int y2), some (.int y3), some (.int x64), some (.int y5), some (.int y6)]) C dX12_rescue_182 rfl (by rw [ex64]; rfl) (by decide) rfl rfl ?_
              refine m_goto (tgt := 81) C dX12_rescue_185 (by decide) ?_
              refine m_sub (L1 := [some (.ref (G.1 22 0)), some (.int a1), some (.int y2), some (.int y3), some (.int x64), none, none]) ⟨rfl, ⟨rfl, ⟨rfl, ⟨rfl, ⟨rfl, trivial⟩⟩⟩⟩⟩ ?_
              have q66 : (gV τ61 23 0 2).toInt = (gV τ 23 0 2).toInt := congrArg Int32.toInt (show (gV τ61 23 0 2) = (gV τ 23 0 2) from (show gV τ61 23 0 2 = (gV τ 23 0 2) from gV_put eτ61 rfl))
              exact ih81 τ61 y2 y3 x64 i62 f63 b_a1 b_y2 b_y3 (iv_wk b65 (by decide)) (by omega) (by omega) (by omega) (by omega) (nT2.step (by omega) (by omega) (by omega) (by omega) (fun k hk => (gV_putn eτ61 (Or.inr (Or.inr hk))).trans ((fun _ => rfl) k)) (fun q => absurd (show (gV τ61 30 0 y4.toInt.toNat).toInt = 0 by rw [show gV τ61 30 0 y4.toInt.toNat = x60 from (show gV τ61 30 0 (y4.toInt.toNat) = x60 from gV_put eτ61 (gV_self _ _ _ _ _)), ex60]; decide) q)) (by have q := hm81; omega)
            · have f67 : y5.toInt ≠ 0 := by
                have q : _ := c57
                simp only [ti_nle, ti_nlt, ti_le, ti_lt, ti_eq, ti_ne, Classical.not_not, kt_0] at q
                omega
              have b68 : IV y5 1 1 := ⟨by have q1 := b_y5; have q2 := kc_0; omega, by have q1 := b_y5; have q2 := kc_0; omega⟩
              refine m_aload_n C dX12_rescue_167 rfl rfl ?_
              refine m_iload C dX12_rescue_168 rfl ?_
              refine m_callV (n := 1) (ci := 11) (st := [.int y4, .ref (G.1 30 0)]) C (c_X12_isSafeE l G τ (y4) iτ ) (by decide) (by decide) rfl rfl rfl q5_164 q5_161 q5_163 q0_47 q1_7 (by decide +kernel) rfl (by decide) (by decide) rfl (Nat.le_of_ble_eq_true rfl) dX12_rescue_170 ?_
              rintro _ τ69 ⟨x72, rfl, i70, f71, b73, h75⟩
              have g74 : Fr MS_X12_rescue AS_X12_rescue σ τ69 := Fr.call (fτ) f71 (by decide)
              have u76 : IV (gV τ69 23 0 2) 0 7 := i70.1 23 0 2
              show MW p l e _ s m args below meth c _ 7 G 0 0 173 [some (.ref (G.1 22 0)), some (.int a1), some (.int y2), some (.int y3), some (.int y4), some (.int y5), some (.int y6)] [.int x72, .int y4, .ref (G.1 30 0)] τ69
              refine m_if_eq (tgt := 180) C dX12_rescue_173 (by decide) (fun c77 => ?_) (fun c77 => ?_)
              · have f78 : x72.toInt = 0 := by
                  have q : _ := c77
                  simp only [ti_nle, ti_nlt, ti_le, ti_lt, ti_eq, ti_ne, Classical.not_not, kt_0] at q
                  omega
                have b79 : IV x72 0 0 := ⟨by have q1 := b73; have q2 := kc_0; omega, by have q1 := b73; have q2 := kc_0; omega⟩
                refine m_iconst (v := 0) C dX12_rescue_180 (by decide) ?_
                refine as_30 C b_y4 (by decide) rfl dX12_rescue_181 ?_
                obtain ⟨x80, ex80⟩ : ∃ y : Int32, y = vp_nar .boolean 0 := ⟨_, rfl⟩
                rw [← ex80]
                refine m_tops (fun τ81 eτ81 => ?_)
                have i82 : Inv τ81 := eτ81 ▸ Inv.putF i70 (by decide) rfl
                have f83 : Fr MS_X12_rescue AS_X12_rescue σ τ81 := eτ81 ▸ Fr.put (g74) (Or.inr (by decide))
                obtain ⟨x84, ex84⟩ : ∃ y : Int32, y = y4 + (-1) := ⟨_, rfl⟩
                have tx84 : x84.toInt = y4.toInt + (-1) := by rw [ex84, ti_addv b_y4 kc_m1 (by decide), kt_m1]
                have b85 : IV x84 (-1) 126 := by rw [ex84]; exact iv_add b_y4 kc_m1 (by decide)
                refine m_iinc (v := x84) (L1 := [some (.ref (G.1 22 0)), some (.int a1), some (.int y2), some (.int y3), some (.int x84), some (.int y5), some (.int y6)]) C dX12_rescue_182 rfl (by rw [ex84]; rfl) (by decide) rfl rfl ?_
                refine m_goto (tgt := 81) C dX12_rescue_185 (by decide) ?_
                refine m_sub (L1 := [some (.ref (G.1 22 0)), some (.int a1), some (.int y2), some (.int y3), some (.int x84), none, none]) ⟨rfl, ⟨rfl, ⟨rfl, ⟨rfl, ⟨rfl, trivial⟩⟩⟩⟩⟩ ?_
                have q86 : (gV τ81 23 0 2).toInt = (gV τ69 23 0 2).toInt := congrArg Int32.toInt (show (gV τ81 23 0 2) = (gV τ69 23 0 2) from (show gV τ81 23 0 2 = (gV τ69 23 0 2) from gV_put eτ81 rfl))
                exact ih81 τ81 y2 y3 x84 i82 f83 b_a1 b_y2 b_y3 (iv_wk b85 (by decide)) (by omega) (by omega) (by omega) (by omega) (nT2.step (by omega) (by omega) (by omega) (by omega) (fun k hk => (gV_putn eτ81 (Or.inr (Or.inr hk))).trans ((fun k => (f71.1 30 0 k (by simp) (by decide)).trans ((fun _ => rfl) k)) k)) (fun q => absurd (show (gV τ81 30 0 y4.toInt.toNat).toInt = 0 by rw [show gV τ81 30 0 y4.toInt.toNat = x80 from (show gV τ81 30 0 (y4.toInt.toNat) = x80 from gV_put eτ81 (gV_self _ _ _ _ _)), ex80]; decide) q)) (by have q := hm81; omega)
              · have f87 : x72.toInt ≠ 0 := by
                  have q : _ := c77
                  simp only [ti_nle, ti_nlt, ti_le, ti_lt, ti_eq, ti_ne, Classical.not_not, kt_0] at q
                  omega
                have b88 : IV x72 1 1 := ⟨by have q1 := b73; have q2 := kc_0; omega, by have q1 := b73; have q2 := kc_0; omega⟩
                refine m_iconst (v := 1) C dX12_rescue_176 (by decide) ?_
                refine m_goto (tgt := 181) C dX12_rescue_177 (by decide) ?_
                refine as_30 C b_y4 (by decide) rfl dX12_rescue_181 ?_
                obtain ⟨x89, ex89⟩ : ∃ y : Int32, y = vp_nar .boolean 1 := ⟨_, rfl⟩
                rw [← ex89]
                refine m_tops (fun τ90 eτ90 => ?_)
                have i91 : Inv τ90 := eτ90 ▸ Inv.putF i70 (by decide) rfl
                have f92 : Fr MS_X12_rescue AS_X12_rescue σ τ90 := eτ90 ▸ Fr.put (g74) (Or.inr (by decide))
                obtain ⟨x93, ex93⟩ : ∃ y : Int32, y = y4 + (-1) := ⟨_, rfl⟩
                have tx93 : x93.toInt = y4.toInt + (-1) := by rw [ex93, ti_addv b_y4 kc_m1 (by decide), kt_m1]
                have b94 : IV x93 (-1) 126 := by rw [ex93]; exact iv_add b_y4 kc_m1 (by decide)
                refine m_iinc (v := x93) (L1 := [some (.ref (G.1 22 0)), some (.int a1), some (.int y2), some (.int y3), some (.int x93), some (.int y5), some (.int y6)]) C dX12_rescue_182 rfl (by rw [ex93]; rfl) (by decide) rfl rfl ?_
                refine m_goto (tgt := 81) C dX12_rescue_185 (by decide) ?_
                refine m_sub (L1 := [some (.ref (G.1 22 0)), some (.int a1), some (.int y2), some (.int y3), some (.int x93), none, none]) ⟨rfl, ⟨rfl, ⟨rfl, ⟨rfl, ⟨rfl, trivial⟩⟩⟩⟩⟩ ?_
                have q95 : (gV τ90 23 0 2).toInt = (gV τ69 23 0 2).toInt := congrArg Int32.toInt (show (gV τ90 23 0 2) = (gV τ69 23 0 2) from (show gV τ90 23 0 2 = (gV τ69 23 0 2) from gV_put eτ90 rfl))
                exact ih81 τ90 y2 y3 x93 i91 f92 b_a1 b_y2 b_y3 (iv_wk b94 (by decide)) (by omega) (by omega) (by omega) (by omega) (nT2.step (by omega) (by omega) (by omega) (by omega) (fun k hk => (gV_putn eτ90 (Or.inr (Or.inr hk))).trans ((fun k => (f71.1 30 0 k (by simp) (by decide)).trans ((fun _ => rfl) k)) k)) (fun _ => nW.resolve_left (by omega))) (by have q := hm81; omega)
          · have f96 : y6.toInt < (gV τ 23 0 2).toInt := by
              have q : _ := c55
              simp only [ti_nle, ti_nlt, ti_le, ti_lt, ti_eq, ti_ne, Classical.not_not] at q
              omega
            have b97 : IV y6 0 6 := ⟨by have q1 := b_y6; have q2 := u54; omega, by have q1 := b_y6; have q2 := u54; omega⟩
            have b98 : IV (gV τ 23 0 2) 1 7 := ⟨by have q1 := b_y6; have q2 := u54; omega, by have q1 := b_y6; have q2 := u54; omega⟩
            refine m_iload C dX12_rescue_113 rfl ?_
            refine m_if_ne (tgt := 143) C dX12_rescue_115 (by decide) (fun c99 => ?_) (fun c99 => ?_)
            · have f100 : y5.toInt ≠ 0 := by
                have q : _ := c99
                simp only [ti_nle, ti_nlt, ti_le, ti_lt, ti_eq, ti_ne, Classical.not_not, kt_0] at q
                omega
              have b101 : IV y5 1 1 := ⟨by have q1 := b_y5; have q2 := kc_0; omega, by have q1 := b_y5; have q2 := kc_0; omega⟩
              refine m_iconst (v := 1) C dX12_rescue_143 (by decide) ?_
              refine m_goto (tgt := 148) C dX12_rescue_144 (by decide) ?_
              refine m_istore (L1 := [some (.ref (G.1 22 0)), some (.int a1), some (.int y2), some (.int y3), some (.int y4), some (.int 1), some (.int y6)]) C dX12_rescue_148 (by decide) rfl rfl ?_
              obtain ⟨x102, ex102⟩ : ∃ y : Int32, y = y6 + 1 := ⟨_, rfl⟩
              have tx102 : x102.toInt = y6.toInt + 1 := by rw [ex102, ti_addv b97 kc_1 (by decide), kt_1]
              have b103 : IV x102 1 7 := by rw [ex102]; exact iv_add b97 kc_1 (by decide)
              refine m_iinc (v := x102) (L1 := [some (.ref (G.1 22 0)), some (.int a1), some (.int y2), some (.int y3), some (.int y4), some (.int 1), some (.int x102)]) C dX12_rescue_150 rfl (by rw [ex102]; rfl) (by decide) rfl rfl ?_
              refine m_goto (tgt := 102) C dX12_rescue_153 (by decide) ?_
              exact ih102 τ 1 x102 iτ fτ b_a1 b_y2 b_y3 b_y4 (iv_wk kc_1 (by decide)) (iv_wk b103 (by decide)) (by omega) (nT2.eq (fun _ => rfl)) (Or.inr (nW.resolve_left (by omega))) (by have q := hm102; omega)
            · have f104 : y5.toInt = 0 := by
                have q : _ := c99
                simp only [ti_nle, ti_nlt, ti_le, ti_lt, ti_eq, ti_ne, Classical.not_not, kt_0] at q
                omega
              have b105 : IV y5 0 0 := ⟨by have q1 := b_y5; have q2 := kc_0; omega, by have q1 := b_y5; have q2 := kc_0; omega⟩
              refine m_iload C dX12_rescue_118 rfl ?_
              refine m_iload C dX12_rescue_120 rfl ?_
              refine m_callS (n := 2) (st := []) C (c_X12_hasE l G τ (y4) (y6) iτ b_y4 b97) q5_142 q5_140 q5_141 q1_7 (by decide +kernel) rfl (by decide) (by decide) rfl (Nat.le_of_ble_eq_true rfl) dX12_rescue_122 ?_
              rintro _ τ106 ⟨x109, rfl, i107, f108, b110, h112⟩
              have g111 : Fr MS_X12_rescue AS_X12_rescue σ τ106 := Fr.call (fτ) f108 (by decide)
              have q113 : (gV τ106 23 0 2).toInt = (gV τ 23 0 2).toInt := congrArg Int32.toInt (show (gV τ106 23 0 2) = (gV τ 23 0 2) from (show gV τ106 23 0 2 = (gV τ 23 0 2) from (f108.1 23 0 (2) (by decide) (by decide)).trans rfl))
              show MW p l e _ s m args below meth c _ 7 G 0 0 125 [some (.ref (G.1 22 0)), some (.int a1), some (.int y2), some (.int y3), some (.int y4), some (.int y5), some (.int y6)] [.int x109] τ106
              refine m_if_ne (tgt := 147) C dX12_rescue_125 (by decide) (fun c114 => ?_) (fun c114 => ?_)
              · have f115 : x109.toInt ≠ 0 := by
                  have q : _ := c114
                  simp only [ti_nle, ti_nlt, ti_le, ti_lt, ti_eq, ti_ne, Classical.not_not, kt_0] at q
                  omega
                have b116 : IV x109 1 1 := ⟨by have q1 := b110; have q2 := kc_0; omega, by have q1 := b110; have q2 := kc_0; omega⟩
                refine m_iconst (v := 0) C dX12_rescue_147 (by decide) ?_
                refine m_istore (L1 := [some (.ref (G.1 22 0)), some (.int a1), some (.int y2), some (.int y3), some (.int y4), some (.int 0), some (.int y6)]) C dX12_rescue_148 (by decide) rfl rfl ?_
                obtain ⟨x117, ex117⟩ : ∃ y : Int32, y = y6 + 1 := ⟨_, rfl⟩
                have tx117 : x117.toInt = y6.toInt + 1 := by rw [ex117, ti_addv b97 kc_1 (by decide), kt_1]
                have b118 : IV x117 1 7 := by rw [ex117]; exact iv_add b97 kc_1 (by decide)
                refine m_iinc (v := x117) (L1 := [some (.ref (G.1 22 0)), some (.int a1), some (.int y2), some (.int y3), some (.int y4), some (.int 0), some (.int x117)]) C dX12_rescue_150 rfl (by rw [ex117]; rfl) (by decide) rfl rfl ?_
                refine m_goto (tgt := 102) C dX12_rescue_153 (by decide) ?_
                exact ih102 τ106 0 x117 i107 g111 b_a1 b_y2 b_y3 b_y4 (iv_wk kc_0 (by decide)) (iv_wk b118 (by decide)) (by omega) (nT2.eq (fun k => (f108.1 30 0 k (by simp) (by decide)).trans ((fun _ => rfl) k))) (Or.inl kt_0) (by have q := hm102; omega)
              · have f119 : x109.toInt = 0 := by
                  have q : _ := c114
                  simp only [ti_nle, ti_nlt, ti_le, ti_lt, ti_eq, ti_ne, Classical.not_not, kt_0] at q
                  omega
                have b120 : IV x109 0 0 := ⟨by have q1 := b110; have q2 := kc_0; omega, by have q1 := b110; have q2 := kc_0; omega⟩
                refine m_aload_n C dX12_rescue_128 rfl rfl ?_
                refine g_22_18 C q4_134 dX12_rescue_129 ?_
                refine m_iload C dX12_rescue_132 rfl ?_
                refine m_iconst (v := 1) C dX12_rescue_134 (by decide) ?_
                refine m_iload C dX12_rescue_135 rfl ?_
                refine m_ishl C dX12_rescue_137 ?_
                refine m_topi (fun x121 ex121 => ?_)
                have b122 : IV x121 1 64 := by rw [ex121]; exact iv_shl1 b97 (by decide)
                refine m_ior C dX12_rescue_138 ?_
                refine m_topi (fun x123 ex123 => ?_)
                have b124 : IV x123 0 127 := by rw [ex123]; exact iv_or 7 b_y4 b122 (by decide)
                have q125 : x123.toInt.toNat = ob y4.toInt.toNat y6.toInt.toNat := or_i ex123 ex121 b_y4 b97
                refine al_30 C b124 (by decide) rfl dX12_rescue_139 ?_
                refine m_topi (fun x126 ex126 => ?_)
                have q127 : (gV τ106 30 0 (ob y4.toInt.toNat y6.toInt.toNat)).toInt = x126.toInt := by rw [← q125, ← ex126]
                refine m_if_eq (tgt := 147) C dX12_rescue_140 (by decide) (fun c128 => ?_) (fun c128 => ?_)
                · have f129 : x126.toInt = 0 := by
                    have q : _ := c128
                    simp only [ti_nle, ti_nlt, ti_le, ti_lt, ti_eq, ti_ne, Classical.not_not, kt_0] at q
                    omega
                  have b130 : IV x126 0 0 := ⟨by have q1 := (iv_any x126); have q2 := kc_0; omega, by have q1 := (iv_any x126); have q2 := kc_0; omega⟩
                  refine m_iconst (v := 0) C dX12_rescue_147 (by decide) ?_
                  refine m_istore (L1 := [some (.ref (G.1 22 0)), some (.int a1), some (.int y2), some (.int y3), some (.int y4), some (.int 0), some (.int y6)]) C dX12_rescue_148 (by decide) rfl rfl ?_
                  obtain ⟨x131, ex131⟩ : ∃ y : Int32, y = y6 + 1 := ⟨_, rfl⟩
                  have tx131 : x131.toInt = y6.toInt + 1 := by rw [ex131, ti_addv b97 kc_1 (by decide), kt_1]
                  have b132 : IV x131 1 7 := by rw [ex131]; exact iv_add b97 kc_1 (by decide)
                  refine m_iinc (v := x131) (L1 := [some (.ref (G.1 22 0)), some (.int a1), some (.int y2), some (.int y3), some (.int y4), some (.int 0), some (.int x131)]) C dX12_rescue_150 rfl (by rw [ex131]; rfl) (by decide) rfl rfl ?_
                  refine m_goto (tgt := 102) C dX12_rescue_153 (by decide) ?_
                  exact ih102 τ106 0 x131 i107 g111 b_a1 b_y2 b_y3 b_y4 (iv_wk kc_0 (by decide)) (iv_wk b132 (by decide)) (by omega) (nT2.eq (fun k => (f108.1 30 0 k (by simp) (by decide)).trans ((fun _ => rfl) k))) (Or.inl kt_0) (by have q := hm102; omega)
                · have f133 : x126.toInt ≠ 0 := by
                    have q : _ := c128
                    simp only [ti_nle, ti_nlt, ti_le, ti_lt, ti_eq, ti_ne, Classical.not_not, kt_0] at q
                    omega
                  refine m_iconst (v := 1) C dX12_rescue_143 (by decide) ?_
                  refine m_goto (tgt := 148) C dX12_rescue_144 (by decide) ?_
                  refine m_istore (L1 := [some (.ref (G.1 22 0)), some (.int a1), some (.int y2), some (.int y3), some (.int y4), some (.int 1), some (.int y6)]) C dX12_rescue_148 (by decide) rfl rfl ?_
                  obtain ⟨x134, ex134⟩ : ∃ y : Int32, y = y6 + 1 := ⟨_, rfl⟩
                  have tx134 : x134.toInt = y6.toInt + 1 := by rw [ex134, ti_addv b97 kc_1 (by decide), kt_1]
                  have b135 : IV x134 1 7 := by rw [ex134]; exact iv_add b97 kc_1 (by decide)
                  refine m_iinc (v := x134) (L1 := [some (.ref (G.1 22 0)), some (.int a1), some (.int y2), some (.int y3), some (.int y4), some (.int 1), some (.int x134)]) C dX12_rescue_150 rfl (by rw [ex134]; rfl) (by decide) rfl rfl ?_
                  refine m_goto (tgt := 102) C dX12_rescue_153 (by decide) ?_
                  exact ih102 τ106 1 x134 i107 g111 b_a1 b_y2 b_y3 b_y4 (iv_wk kc_1 (by decide)) (iv_wk b135 (by decide)) (by omega) (nT2.eq (fun k => (f108.1 30 0 k (by simp) (by decide)).trans ((fun _ => rfl) k))) (Or.inr (Or.inr ⟨y6.toInt.toNat, Nat.zero_le _, by omega, by omega, by omega⟩)) (by have q := hm102; omega)
      have u136 : IV (gV τ 23 0 2) 0 7 := iτ.1 23 0 2
      refine m_iload C dX12_rescue_81 rfl ?_
      refine m_if_lt (tgt := 188) C dX12_rescue_83 (by decide) (fun c137 => ?_) (fun c137 => ?_)
      · have f138 : y4.toInt < 0 := by
          have q : _ := c137
          simp only [ti_nle, ti_nlt, ti_le, ti_lt, ti_eq, ti_ne, Classical.not_not, kt_0] at q
          omega
        have b139 : IV y4 (-1) (-1) := ⟨by have q1 := b_y4; have q2 := kc_0; omega, by have q1 := b_y4; have q2 := kc_0; omega⟩
        refine m_aload_n C dX12_rescue_188 rfl rfl ?_
        refine g_22_18 C q4_134 dX12_rescue_189 ?_
        refine m_iload_n C dX12_rescue_192 rfl rfl ?_
        refine al_30 C b_y2 (by decide) rfl dX12_rescue_193 ?_
        refine m_topi (fun x140 ex140 => ?_)
        have q141 : (gV τ 30 0 y2.toInt.toNat).toInt = x140.toInt := by rw [← ex140]
        refine m_if_eq (tgt := 212) C dX12_rescue_194 (by decide) (fun c142 => ?_) (fun c142 => ?_)
        · have f143 : x140.toInt = 0 := by
            have q : _ := c142
            simp only [ti_nle, ti_nlt, ti_le, ti_lt, ti_eq, ti_ne, Classical.not_not, kt_0] at q
            omega
          have b144 : IV x140 0 0 := ⟨by have q1 := (iv_any x140); have q2 := kc_0; omega, by have q1 := (iv_any x140); have q2 := kc_0; omega⟩
          refine m_ldc (v := (-1000000)) C dX12_rescue_212 q5_70 ?_
          exact m_iret C hr hlk (by decide) (by decide) dX12_rescue_214 ⟨_, rfl, iτ, fτ, (iv_wk kc_m1000000 (by decide))⟩
        · have f145 : x140.toInt ≠ 0 := by
            have q : _ := c142
            simp only [ti_nle, ti_nlt, ti_le, ti_lt, ti_eq, ti_ne, Classical.not_not, kt_0] at q
            omega
          refine m_iload_n C dX12_rescue_197 rfl rfl ?_
          refine m_aload_n C dX12_rescue_198 rfl rfl ?_
          refine g_22_0 C q4_116 dX12_rescue_199 ?_
          refine m_iconst (v := 2) C dX12_rescue_202 (by decide) ?_
          refine al_23 C kc_2 (by decide) kn_2 dX12_rescue_203 ?_
          refine m_eqs (w := (gV τ 23 0 2)) rfl ?_
          refine m_iload_n C dX12_rescue_204 rfl rfl ?_
          refine m_callS (n := 1) (st := [.int (gV τ 23 0 2), .int a1]) C (c_X12_onesE l G τ (y2) iτ b_y2) q5_139 q5_137 q5_138 q1_7 (by decide +kernel) rfl (by decide) (by decide) rfl (Nat.le_of_ble_eq_true rfl) dX12_rescue_205 ?_
          rintro _ τ146 ⟨x149, rfl, i147, f148, b150, h152⟩
          have g151 : Fr MS_X12_rescue AS_X12_rescue σ τ146 := Fr.call (fτ) f148 (by decide)
          have q153 : (gV τ146 23 0 2).toInt = (gV τ 23 0 2).toInt := congrArg Int32.toInt (show (gV τ146 23 0 2) = (gV τ 23 0 2) from (show gV τ146 23 0 2 = (gV τ 23 0 2) from (f148.1 23 0 (2) (by decide) (by decide)).trans rfl))
          show MW p l e _ s m args below meth c _ 7 G 0 0 208 [some (.ref (G.1 22 0)), some (.int a1), some (.int y2), some (.int y3), some (.int y4), none, none] [.int x149, .int (gV τ 23 0 2), .int a1] τ146
          refine m_isub C dX12_rescue_208 ?_
          refine m_topi (fun x154 ex154 => ?_)
          have tx154 : x154.toInt = (gV τ 23 0 2).toInt - x149.toInt := by rw [ex154, ti_subv u136 b150 (by decide)]
          have b155 : IV x154 (-7) 7 := by rw [ex154]; exact iv_sub u136 b150 (by decide)
          refine m_icmp_lt (tgt := 215) C dX12_rescue_209 (by decide) (fun c156 => ?_) (fun c156 => ?_)
          · have f157 : a1.toInt < x154.toInt := by
              have q : _ := c156
              simp only [ti_nle, ti_nlt, ti_le, ti_lt, ti_eq, ti_ne, Classical.not_not] at q
              omega
            have b158 : IV a1 0 6 := ⟨by have q1 := b_a1; have q2 := b155; omega, by have q1 := b_a1; have q2 := b155; omega⟩
            have b159 : IV x154 1 7 := ⟨by have q1 := b_a1; have q2 := b155; omega, by have q1 := b_a1; have q2 := b155; omega⟩
            refine m_iload_n C dX12_rescue_215 rfl rfl ?_
            refine m_istore (L1 := [some (.ref (G.1 22 0)), some (.int a1), some (.int y2), some (.int y3), some (.int y2), none, none]) C dX12_rescue_216 (by decide) rfl rfl ?_
            refine m_iconst (v := 0) C dX12_rescue_218 (by decide) ?_
            refine m_istore (L1 := [some (.ref (G.1 22 0)), some (.int a1), some (.int y2), some (.int y3), some (.int y2), some (.int 0), none]) C dX12_rescue_219 (by decide) rfl rfl ?_
            refine m_iconst (v := 0) C dX12_rescue_221 (by decide) ?_
            refine m_istore (L1 := [some (.ref (G.1 22 0)), some (.int a1), some (.int y2), some (.int y3), some (.int y2), some (.int 0), some (.int 0)]) C dX12_rescue_222 (by decide) rfl rfl ?_
            refine m_sub (L1 := [some (.ref (G.1 22 0)), some (.int a1), none, none, some (.int y2), some (.int 0), some (.int 0)]) ⟨rfl, ⟨rfl, ⟨rfl, ⟨rfl, ⟨rfl, trivial⟩⟩⟩⟩⟩ ?_
            exact J224 ((7 - (0 : Int32).toInt).toNat + 1) τ146 y2 0 0 i147 g151 b158 b_y2 (iv_wk kc_0 (by decide)) (iv_wk kc_0 (by decide)) ((nT.eq (fun k => (f148.1 30 0 k (by simp) (by decide)).trans ((fun _ => rfl) k))).cast (by omega)) (by rw [(fun k => (f148.1 30 0 k (by simp) (by decide)).trans ((fun _ => rfl) k)) _]; omega) (by omega) (by omega) (Nat.lt_succ_self _)
          · have f160 : x154.toInt ≤ a1.toInt := by
              have q : _ := c156
              simp only [ti_nle, ti_nlt, ti_le, ti_lt, ti_eq, ti_ne, Classical.not_not] at q
              omega
            refine m_ldc (v := (-1000000)) C dX12_rescue_212 q5_70 ?_
            exact m_iret C hr hlk (by decide) (by decide) dX12_rescue_214 ⟨_, rfl, i147, g151, (iv_wk kc_m1000000 (by decide))⟩
      · have f161 : 0 ≤ y4.toInt := by
          have q : _ := c137
          simp only [ti_nle, ti_nlt, ti_le, ti_lt, ti_eq, ti_ne, Classical.not_not, kt_0] at q
          omega
        have b162 : IV y4 0 127 := ⟨by have q1 := kc_0; have q2 := b_y4; omega, by have q1 := kc_0; have q2 := b_y4; omega⟩
        refine m_iload C dX12_rescue_86 rfl ?_
        refine m_iload_n C dX12_rescue_88 rfl rfl ?_
        refine m_icmp_ne (tgt := 96) C dX12_rescue_89 (by decide) (fun c163 => ?_) (fun c163 => ?_)
        · have f164 : y4.toInt ≠ y3.toInt := by
            have q : _ := c163
            simp only [ti_nle, ti_nlt, ti_le, ti_lt, ti_eq, ti_ne, Classical.not_not] at q
            omega
          refine m_iconst (v := 0) C dX12_rescue_96 (by decide) ?_
          refine m_istore (L1 := [some (.ref (G.1 22 0)), some (.int a1), some (.int y2), some (.int y3), some (.int y4), some (.int 0), none]) C dX12_rescue_97 (by decide) rfl rfl ?_
          refine m_iconst (v := 0) C dX12_rescue_99 (by decide) ?_
          refine m_istore (L1 := [some (.ref (G.1 22 0)), some (.int a1), some (.int y2), some (.int y3), some (.int y4), some (.int 0), some (.int 0)]) C dX12_rescue_100 (by decide) rfl rfl ?_
          exact J102 ((7 - (0 : Int32).toInt).toNat + 1) τ 0 0 iτ fτ b_a1 b_y2 b_y3 b162 (iv_wk kc_0 (by decide)) (iv_wk kc_0 (by decide)) (by omega) nT (Or.inl kt_0) (Nat.lt_succ_self _)
        · have f165 : y4.toInt = y3.toInt := by
            have q : _ := c163
            simp only [ti_nle, ti_nlt, ti_le, ti_lt, ti_eq, ti_ne, Classical.not_not] at q
            omega
          refine m_iconst (v := 1) C dX12_rescue_92 (by decide) ?_
          refine m_goto (tgt := 97) C dX12_rescue_93 (by decide) ?_
          refine m_istore (L1 := [some (.ref (G.1 22 0)), some (.int a1), some (.int y2), some (.int y3), some (.int y4), some (.int 1), none]) C dX12_rescue_97 (by decide) rfl rfl ?_
          refine m_iconst (v := 0) C dX12_rescue_99 (by decide) ?_
          refine m_istore (L1 := [some (.ref (G.1 22 0)), some (.int a1), some (.int y2), some (.int y3), some (.int y4), some (.int 1), some (.int 0)]) C dX12_rescue_100 (by decide) rfl rfl ?_
          exact J102 ((7 - (0 : Int32).toInt).toNat + 1) τ 1 0 iτ fτ b_a1 b_y2 b_y3 b162 (iv_wk kc_1 (by decide)) (iv_wk kc_0 (by decide)) (by omega) nT (Or.inr (Or.inl (by omega))) (Nat.lt_succ_self _)
  have J21 : ∀ (n : Nat) (τ : Sg) (y2 : Int32) (y3 : Int32), Inv τ → Fr MS_X12_rescue AS_X12_rescue σ τ → IV a1 0 2147483647 → IV y2 0 127 → IV y3 0 7 → ((gV τ 23 0 2).toInt = (gV σ 23 0 2).toInt) → (y2.toInt.toNat < pw (gV σ 23 0 2).toInt.toNat) → (7 - y3.toInt).toNat < n → MW p l e { frames := 5, cells := 0, slots := 0, locals := 140 } s m args below meth c (MQ below (QP G (PI fun r τ => Inv τ ∧ Fr MS_X12_rescue AS_X12_rescue σ τ ∧ IV r (-2147483648) 2147483647)) args s 0 0 (aG G)) 7 G 0 0 21 [some (.ref (G.1 22 0)), some (.int a1), some (.int y2), some (.int y3), none, none, none] [] τ := by
    intro n
    induction n with
    | zero => intro τ y2 y3 iτ fτ b_a1 b_y2 b_y3 n166 n167 hm; exact absurd hm (Nat.not_lt_zero _)
    | succ n ih21 =>
      intro τ y2 y3 iτ fτ b_a1 b_y2 b_y3 n166 n167 hm21
      have u168 : IV (gV τ 23 0 2) 0 7 := iτ.1 23 0 2
      refine m_iload_n C dX12_rescue_21 rfl rfl ?_
      refine m_aload_n C dX12_rescue_22 rfl rfl ?_
      refine g_22_0 C q4_116 dX12_rescue_23 ?_
      refine m_iconst (v := 2) C dX12_rescue_26 (by decide) ?_
      refine al_23 C kc_2 (by decide) kn_2 dX12_rescue_27 ?_
      refine m_eqs (w := (gV τ 23 0 2)) rfl ?_
      refine m_icmp_ge (tgt := 59) C dX12_rescue_28 (by decide) (fun c169 => ?_) (fun c169 => ?_)
      · have f170 : (gV τ 23 0 2).toInt ≤ y3.toInt := by
          have q : _ := c169
          simp only [ti_nle, ti_nlt, ti_le, ti_lt, ti_eq, ti_ne, Classical.not_not] at q
          omega
        refine m_aload_n C dX12_rescue_59 rfl rfl ?_
        refine m_iconst (v := 0) C dX12_rescue_60 (by decide) ?_
        refine m_sipush (v := 200) C dX12_rescue_61 (by decide) ?_
        have q171 := kt_0
        have q172 := kt_200
        refine m_callV (n := 2) (ci := 11) (st := []) C (c_X12_copyAll l G τ (0) (200) iτ (iv_wk kc_0 (by decide)) (iv_wk kc_200 (by decide)) (by omega) (by omega) (by omega) (Or.inl (by omega))) (by decide) (by decide) rfl rfl rfl q5_38 q5_35 q5_37 q0_35 q1_7 (by decide +kernel) rfl (by decide) (by decide) rfl (Nat.le_of_ble_eq_true rfl) dX12_rescue_64 ?_
        rintro _ τ173 ⟨rfl, i174, f175, h179⟩
        have g178 : Fr MS_X12_rescue AS_X12_rescue σ τ173 := Fr.call (fτ) f175 (by decide)
        have u180 : IV (gV τ173 23 0 2) 0 7 := i174.1 23 0 2
        have q181 : (gV τ173 23 0 2).toInt = (gV τ 23 0 2).toInt := congrArg Int32.toInt (h179.2.2 23 0 2 (Or.inr (Or.inr (Or.inl (by decide)))))
        show MW p l e _ s m args below meth c _ 7 G 0 0 67 [some (.ref (G.1 22 0)), some (.int a1), some (.int y2), some (.int y3), none, none, none] [] τ173
        refine m_iconst (v := 1) C dX12_rescue_67 (by decide) ?_
        refine m_aload_n C dX12_rescue_68 rfl rfl ?_
        refine g_22_0 C q4_116 dX12_rescue_69 ?_
        refine m_iconst (v := 2) C dX12_rescue_72 (by decide) ?_
        refine al_23 C kc_2 (by decide) kn_2 dX12_rescue_73 ?_
        refine m_eqs (w := (gV τ173 23 0 2)) rfl ?_
        refine m_ishl C dX12_rescue_74 ?_
        refine m_topi (fun x182 ex182 => ?_)
        have b183 : IV x182 1 128 := by rw [ex182]; exact iv_shl1 u180 (by decide)
        have q184 : x182.toInt = (pw (gV τ173 23 0 2).toInt.toNat : Int) := shl_pw ex182 u180
        rw [show (gV τ173 23 0 2).toInt.toNat = (gV σ 23 0 2).toInt.toNat by omega] at q184
        refine m_iconst (v := 1) C dX12_rescue_75 (by decide) ?_
        refine m_isub C dX12_rescue_76 ?_
        refine m_topi (fun x185 ex185 => ?_)
        have tx185 : x185.toInt = x182.toInt - 1 := by rw [ex185, ti_subv b183 kc_1 (by decide), kt_1]
        have b186 : IV x185 0 127 := by rw [ex185]; exact iv_sub b183 kc_1 (by decide)
        refine m_istore_n (L1 := [some (.ref (G.1 22 0)), some (.int a1), some (.int y2), some (.int x185), none, none, none]) C dX12_rescue_77 rfl (by decide) rfl rfl ?_
        refine m_iload_n C dX12_rescue_78 rfl rfl ?_
        refine m_istore (L1 := [some (.ref (G.1 22 0)), some (.int a1), some (.int y2), some (.int x185), some (.int x185), none, none]) C dX12_rescue_79 (by decide) rfl rfl ?_
        exact J81 ((x185.toInt - (-1)).toNat + 1) τ173 y2 x185 x185 i174 g178 b_a1 b_y2 b186 (iv_wk b186 (by decide)) (by omega) (by omega) (by omega) (by omega) (TT.top (by omega)) (Nat.lt_succ_self _)
      · have f187 : y3.toInt < (gV τ 23 0 2).toInt := by
          have q : _ := c169
          simp only [ti_nle, ti_nlt, ti_le, ti_lt, ti_eq, ti_ne, Classical.not_not] at q
          omega
        have b188 : IV y3 0 6 := ⟨by have q1 := b_y3; have q2 := u168; omega, by have q1 := b_y3; have q2 := u168; omega⟩
        have b189 : IV (gV τ 23 0 2) 1 7 := ⟨by have q1 := b_y3; have q2 := u168; omega, by have q1 := b_y3; have q2 := u168; omega⟩
        refine m_iload_n C dX12_rescue_31 rfl rfl ?_
        refine m_aload_n C dX12_rescue_32 rfl rfl ?_
        refine g_22_0 C q4_116 dX12_rescue_33 ?_
        refine m_bipush (v := 24) C dX12_rescue_36 (by decide) ?_
        refine m_iload_n C dX12_rescue_38 rfl rfl ?_
        refine m_iadd C dX12_rescue_39 ?_
        refine m_topi (fun x190 ex190 => ?_)
        have tx190 : x190.toInt = 24 + y3.toInt := by rw [ex190, ti_addv kc_24 b188 (by decide), kt_24]
        have b191 : IV x190 24 30 := by rw [ex190]; exact iv_add kc_24 b188 (by decide)
        refine al_23 C b191 (by decide) rfl dX12_rescue_40 ?_
        refine m_topi (fun x192 ex192 => ?_)
        refine m_if_ge (tgt := 50) C dX12_rescue_41 (by decide) (fun c193 => ?_) (fun c193 => ?_)
        · have f194 : 0 ≤ x192.toInt := by
            have q : _ := c193
            simp only [ti_nle, ti_nlt, ti_le, ti_lt, ti_eq, ti_ne, Classical.not_not, kt_0] at q
            omega
          have b195 : IV x192 0 2147483647 := ⟨by have q1 := kc_0; have q2 := (iv_any x192); omega, by have q1 := kc_0; have q2 := (iv_any x192); omega⟩
          refine m_iconst (v := 0) C dX12_rescue_50 (by decide) ?_
          refine m_ior C dX12_rescue_51 ?_
          refine m_topi (fun x196 ex196 => ?_)
          have b197 : IV x196 0 127 := by rw [ex196]; exact iv_or 7 b_y2 kc_0 (by decide)
          have q198 : x196.toInt.toNat = y2.toInt.toNat := or_0 ex196
          refine m_istore_n (L1 := [some (.ref (G.1 22 0)), some (.int a1), some (.int x196), some (.int y3), none, none, none]) C dX12_rescue_52 rfl (by decide) rfl rfl ?_
          obtain ⟨x199, ex199⟩ : ∃ y : Int32, y = y3 + 1 := ⟨_, rfl⟩
          have tx199 : x199.toInt = y3.toInt + 1 := by rw [ex199, ti_addv b188 kc_1 (by decide), kt_1]
          have b200 : IV x199 1 7 := by rw [ex199]; exact iv_add b188 kc_1 (by decide)
          refine m_iinc (v := x199) (L1 := [some (.ref (G.1 22 0)), some (.int a1), some (.int x196), some (.int x199), none, none, none]) C dX12_rescue_53 rfl (by rw [ex199]; rfl) (by decide) rfl rfl ?_
          refine m_goto (tgt := 21) C dX12_rescue_56 (by decide) ?_
          exact ih21 τ x196 x199 iτ fτ b_a1 b197 (iv_wk b200 (by decide)) (by omega) (by omega) (by have q := hm21; omega)
        · have f201 : x192.toInt < 0 := by
            have q : _ := c193
            simp only [ti_nle, ti_nlt, ti_le, ti_lt, ti_eq, ti_ne, Classical.not_not, kt_0] at q
            omega
          have b202 : IV x192 (-2147483648) (-1) := ⟨by have q1 := (iv_any x192); have q2 := kc_0; omega, by have q1 := (iv_any x192); have q2 := kc_0; omega⟩
          refine m_iconst (v := 1) C dX12_rescue_44 (by decide) ?_
          refine m_iload_n C dX12_rescue_45 rfl rfl ?_
          refine m_ishl C dX12_rescue_46 ?_
          refine m_topi (fun x203 ex203 => ?_)
          have b204 : IV x203 1 64 := by rw [ex203]; exact iv_shl1 b188 (by decide)
          refine m_goto (tgt := 51) C dX12_rescue_47 (by decide) ?_
          refine m_ior C dX12_rescue_51 ?_
          refine m_topi (fun x205 ex205 => ?_)
          have b206 : IV x205 0 127 := by rw [ex205]; exact iv_or 7 b_y2 b204 (by decide)
          have q207 : x205.toInt.toNat = ob y2.toInt.toNat y3.toInt.toNat := or_i ex205 ex203 b_y2 b188
          have q208 : x205.toInt.toNat < pw (gV σ 23 0 2).toInt.toNat := by rw [q207]; exact ob_lt (by omega) (by omega)
          refine m_istore_n (L1 := [some (.ref (G.1 22 0)), some (.int a1), some (.int x205), some (.int y3), none, none, none]) C dX12_rescue_52 rfl (by decide) rfl rfl ?_
          obtain ⟨x209, ex209⟩ : ∃ y : Int32, y = y3 + 1 := ⟨_, rfl⟩
          have tx209 : x209.toInt = y3.toInt + 1 := by rw [ex209, ti_addv b188 kc_1 (by decide), kt_1]
          have b210 : IV x209 1 7 := by rw [ex209]; exact iv_add b188 kc_1 (by decide)
          refine m_iinc (v := x209) (L1 := [some (.ref (G.1 22 0)), some (.int a1), some (.int x205), some (.int x209), none, none, none]) C dX12_rescue_53 rfl (by rw [ex209]; rfl) (by decide) rfl rfl ?_
          refine m_goto (tgt := 21) C dX12_rescue_56 (by decide) ?_
          exact ih21 τ x205 x209 iτ fτ b_a1 b206 (iv_wk b210 (by decide)) (by omega) (by omega) (by have q := hm21; omega)
  have u211 : IV (gV σ 23 0 2) 0 7 := hI.1 23 0 2
  refine m_aload_n C dX12_rescue_0 rfl rfl ?_
  refine m_callV (n := 0) (ci := 11) (st := []) C (c_X12_isTower l G σ  hI ) (by decide) (by decide) rfl rfl rfl q5_67 q5_64 q5_66 q0_38 q1_7 (by decide +kernel) rfl (by decide) (by decide) rfl (Nat.le_of_ble_eq_true rfl) dX12_rescue_1 ?_
  rintro _ τ212 ⟨x215, rfl, i213, f214, b216⟩
  have g217 : Fr MS_X12_rescue AS_X12_rescue σ τ212 := Fr.call (Fr.rf) f214 (by decide)
  show MW p l e _ s m args below meth c _ 7 G 0 0 4 [some (.ref (G.1 22 0)), some (.int a1), none, none, none, none, none] [.int x215] τ212
  refine m_if_ne (tgt := 10) C dX12_rescue_4 (by decide) (fun c219 => ?_) (fun c219 => ?_)
  · have f220 : x215.toInt ≠ 0 := by
      have q : _ := c219
      simp only [ti_nle, ti_nlt, ti_le, ti_lt, ti_eq, ti_ne, Classical.not_not, kt_0] at q
      omega
    have b221 : IV x215 1 1 := ⟨by have q1 := b216; have q2 := kc_0; omega, by have q1 := b216; have q2 := kc_0; omega⟩
    refine m_iload_n C dX12_rescue_10 rfl rfl ?_
    refine m_if_ge (tgt := 17) C dX12_rescue_11 (by decide) (fun c222 => ?_) (fun c222 => ?_)
    · have f223 : 0 ≤ a1.toInt := by
        have q : _ := c222
        simp only [ti_nle, ti_nlt, ti_le, ti_lt, ti_eq, ti_ne, Classical.not_not, kt_0] at q
        omega
      have b224 : IV a1 0 2147483647 := ⟨by have q1 := kc_0; have q2 := (iv_any a1); omega, by have q1 := kc_0; have q2 := (iv_any a1); omega⟩
      refine m_iconst (v := 0) C dX12_rescue_17 (by decide) ?_
      refine m_istore_n (L1 := [some (.ref (G.1 22 0)), some (.int a1), some (.int 0), none, none, none, none]) C dX12_rescue_18 rfl (by decide) rfl rfl ?_
      refine m_iconst (v := 0) C dX12_rescue_19 (by decide) ?_
      have q225 := pw_pos (gV σ 23 0 2).toInt.toNat
      have q226 := kt_0
      have q227 := kn_0
      refine m_istore_n (L1 := [some (.ref (G.1 22 0)), some (.int a1), some (.int 0), some (.int 0), none, none, none]) C dX12_rescue_20 rfl (by decide) rfl rfl ?_
      have q228 : (gV τ212 23 0 2).toInt = (gV σ 23 0 2).toInt := congrArg Int32.toInt (show (gV τ212 23 0 2) = (gV σ 23 0 2) from (show gV τ212 23 0 2 = (gV σ 23 0 2) from (f214.1 23 0 (2) (by decide) (by decide)).trans rfl))
      exact J21 ((7 - (0 : Int32).toInt).toNat + 1) τ212 0 0 i213 g217 b224 (iv_wk kc_0 (by decide)) (iv_wk kc_0 (by decide)) (by omega) (by omega) (Nat.lt_succ_self _)
    · have f229 : a1.toInt < 0 := by
        have q : _ := c222
        simp only [ti_nle, ti_nlt, ti_le, ti_lt, ti_eq, ti_ne, Classical.not_not, kt_0] at q
        omega
      have b230 : IV a1 (-2147483648) (-1) := ⟨by have q1 := (iv_any a1); have q2 := kc_0; omega, by have q1 := (iv_any a1); have q2 := kc_0; omega⟩
      refine m_ldc (v := (-1000001)) C dX12_rescue_14 q4_192 ?_
      have q231 : (gV τ212 23 0 2).toInt = (gV σ 23 0 2).toInt := congrArg Int32.toInt (show (gV τ212 23 0 2) = (gV σ 23 0 2) from (show gV τ212 23 0 2 = (gV σ 23 0 2) from (f214.1 23 0 (2) (by decide) (by decide)).trans rfl))
      exact m_iret C hr hlk (by decide) (by decide) dX12_rescue_16 ⟨_, rfl, i213, g217, (iv_wk kc_m1000001 (by decide))⟩
  · have f232 : x215.toInt = 0 := by
      have q : _ := c219
      simp only [ti_nle, ti_nlt, ti_le, ti_lt, ti_eq, ti_ne, Classical.not_not, kt_0] at q
      omega
    have b233 : IV x215 0 0 := ⟨by have q1 := b216; have q2 := kc_0; omega, by have q1 := b216; have q2 := kc_0; omega⟩
    refine m_ldc (v := (-1000002)) C dX12_rescue_7 q5_68 ?_
    have q234 : (gV τ212 23 0 2).toInt = (gV σ 23 0 2).toInt := congrArg Int32.toInt (show (gV τ212 23 0 2) = (gV σ 23 0 2) from (show gV τ212 23 0 2 = (gV σ 23 0 2) from (f214.1 23 0 (2) (by decide) (by decide)).trans rfl))
    exact m_iret C hr hlk (by decide) (by decide) dX12_rescue_9 ⟨_, rfl, i213, g217, (iv_wk kc_m1000002 (by decide))⟩

