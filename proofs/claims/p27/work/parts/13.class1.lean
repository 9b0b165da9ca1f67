abbrev MS_X7_isMissing : List (Nat × Nat) := []
abbrev AS_X7_isMissing : List Nat := []
set_option maxHeartbeats 4000000 in
set_option maxRecDepth 100000 in
theorem c_X7_isMissing (l : Launch) (G : Gt) (σ : Sg) {j : Nat} (hj : j < 8) (hI : Inv σ) : Mc l G yX7_isMissing cX7_isMissing 1 (some .boolean) 0 0 0 0 [.ref (G.1 20 j)] σ (PI fun r τ => Inv τ ∧ Fr MS_X7_isMissing AS_X7_isMissing σ τ ∧ IV r 0 1) := by
  refine Mc.of (L0 := [some (.ref (G.1 20 j))]) (by decide) (Nat.le_of_ble_eq_true rfl) rfl ?_
  intro p e s m args below meth c C hr hlk
  have C : Cx p s m args c cX7_isMissing 1 "LeanTower$Row" := C
  have k0 : (0 : Int32).toInt = 0 := by decide
  have k1 : (1 : Int32).toInt = 1 := by decide
  refine m_aload_n C dX7_isMissing_0 rfl rfl ?_
  refine g_20_1 C hj q1_174 dX7_isMissing_1 ?_
  refine m_topi (fun x1 ex1 => ?_)
  refine m_iconst (v := (-1)) C dX7_isMissing_4 (by decide) ?_
  refine m_icmp_ne (tgt := 12) C dX7_isMissing_5 (by decide) (fun c2 => ?_) (fun c2 => ?_)
  · have f3 : x1.toInt ≠ -1 := by
      have q : _ := c2
      simp only [ti_nle, ti_nlt, ti_le, ti_lt, ti_eq, ti_ne, Classical.not_not, kt_m1] at q
      omega
    refine m_iconst (v := 0) C dX7_isMissing_12 (by decide) ?_
    exact m_zret C hr rfl hlk (by decide) (by decide) dX7_isMissing_13 ⟨_, rfl, hI, Fr.rf, (iv_wk kc_0 (by decide))⟩
  · have f4 : x1.toInt = -1 := by
      have q : _ := c2
      simp only [ti_nle, ti_nlt, ti_le, ti_lt, ti_eq, ti_ne, Classical.not_not, kt_m1] at q
      omega
    have b5 : IV x1 (-1) (-1) := ⟨by have q1 := (iv_any x1); have q2 := kc_m1; omega, by have q1 := (iv_any x1); have q2 := kc_m1; omega⟩
    refine m_iconst (v := 1) C dX7_isMissing_8 (by decide) ?_
    refine m_goto (tgt := 13) C dX7_isMissing_9 (by decide) ?_
    exact m_zret C hr rfl hlk (by decide) (by decide) dX7_isMissing_13 ⟨_, rfl, hI, Fr.rf, (iv_wk kc_1 (by decide))⟩

abbrev MS_X7_begin : List (Nat × Nat) := [(20, 1), (20, 2)]
abbrev AS_X7_begin : List Nat := [21]
set_option maxHeartbeats 4000000 in
set_option maxRecDepth 100000 in
theorem c_X7_begin (l : Launch) (G : Gt) (σ : Sg) {j : Nat} (hj : j < 8) (a1 : Int32) (a2 : Int32) (hI : Inv σ) (ha2 : IV a2 0 40) : Mc l G yX7_begin cX7_begin 4 none 0 0 0 0 [.ref (G.1 20 j), .int a1, .int a2] σ (PV fun τ => Inv τ ∧ Fr MS_X7_begin AS_X7_begin σ τ) := by
  refine Mc.of (L0 := [some (.ref (G.1 20 j)), some (.int a1), some (.int a2), none]) (by decide) (Nat.le_of_ble_eq_true rfl) rfl ?_
  intro p e s m args below meth c C hr hlk
  have C : Cx p s m args c cX7_begin 4 "LeanTower$Row" := C
  have k0 : (0 : Int32).toInt = 0 := by decide
  have k1 : (1 : Int32).toInt = 1 := by decide
  have J12 : ∀ (n : Nat) (τ : Sg) (y3 : Int32), Inv τ → Fr MS_X7_begin AS_X7_begin σ τ → IV a1 (-2147483648) 2147483647 → IV a2 0 40 → IV y3 0 40 → (40 - y3.toInt).toNat < n → MW p l e { frames := 0, cells := 0, slots := 0, locals := 0 } s m args below meth c (MQ below (QP G (PV fun τ => Inv τ ∧ Fr MS_X7_begin AS_X7_begin σ τ)) args s 0 0 (aG G)) 4 G 0 0 12 [some (.ref (G.1 20 j)), none, none, some (.int y3)] [] τ := by
    intro n
    induction n with
    | zero => intro τ y3 iτ fτ b_a1 b_a2 b_y3 hm; exact absurd hm (Nat.not_lt_zero _)
    | succ n ih12 =>
      intro τ y3 iτ fτ b_a1 b_a2 b_y3 hm12
      refine m_iload_n C dX7_begin_12 rfl rfl ?_
      refine m_bipush (v := 40) C dX7_begin_13 (by decide) ?_
      refine m_icmp_ge (tgt := 31) C dX7_begin_15 (by decide) (fun c1 => ?_) (fun c1 => ?_)
      · have f2 : 40 ≤ y3.toInt := by
          have q : _ := c1
          simp only [ti_nle, ti_nlt, ti_le, ti_lt, ti_eq, ti_ne, Classical.not_not, kt_40] at q
          omega
        have b3 : IV y3 40 40 := ⟨by have q1 := kc_40; have q2 := b_y3; omega, by have q1 := kc_40; have q2 := b_y3; omega⟩
        exact m_vret C hr hlk (by decide) (by decide) dX7_begin_31 ⟨rfl, iτ, fτ⟩
      · have f4 : y3.toInt < 40 := by
          have q : _ := c1
          simp only [ti_nle, ti_nlt, ti_le, ti_lt, ti_eq, ti_ne, Classical.not_not, kt_40] at q
          omega
        have b5 : IV y3 0 39 := ⟨by have q1 := b_y3; have q2 := kc_40; omega, by have q1 := b_y3; have q2 := kc_40; omega⟩
        refine m_aload_n C dX7_begin_18 rfl rfl ?_
        refine g_20_0 C hj q1_172 dX7_begin_19 ?_
        refine m_iload_n C dX7_begin_22 rfl rfl ?_
        refine m_iconst (v := 0) C dX7_begin_23 (by decide) ?_
        refine as_21 C hj b5 (by decide) rfl dX7_begin_24 ?_
        refine m_tops (fun τ6 eτ6 => ?_)
        have i7 : Inv τ6 := eτ6 ▸ Inv.putF iτ (by decide) rfl
        have f8 : Fr MS_X7_begin AS_X7_begin σ τ6 := eτ6 ▸ Fr.put (fτ) (Or.inr (by decide))
        obtain ⟨x9, ex9⟩ : ∃ y : Int32, y = y3 + 1 := ⟨_, rfl⟩
        have tx9 : x9.toInt = y3.toInt + 1 := by rw [ex9, ti_addv b5 kc_1 (by decide), kt_1]
        have b10 : IV x9 1 40 := by rw [ex9]; exact iv_add b5 kc_1 (by decide)
        refine m_iinc (v := x9) (L1 := [some (.ref (G.1 20 j)), none, none, some (.int x9)]) C dX7_begin_25 rfl (by rw [ex9]; rfl) (by decide) rfl rfl ?_
        refine m_goto (tgt := 12) C dX7_begin_28 (by decide) ?_
        exact ih12 τ6 x9 i7 f8 b_a1 b_a2 (iv_wk b10 (by decide)) (by have q := hm12; omega)
  refine m_aload_n C dX7_begin_0 rfl rfl ?_
  refine m_iload_n C dX7_begin_1 rfl rfl ?_
  refine p_20_1 C hj q1_174 dX7_begin_2 ?_
  refine m_tops (fun τ11 eτ11 => ?_)
  have i12 : Inv τ11 := eτ11 ▸ Inv.putF hI (by decide) rfl
  have f13 : Fr MS_X7_begin AS_X7_begin σ τ11 := eτ11 ▸ Fr.put (Fr.rf) (Or.inl (by decide))
  refine m_aload_n C dX7_begin_5 rfl rfl ?_
  refine m_iload_n C dX7_begin_6 rfl rfl ?_
  refine p_20_2 C hj q1_176 dX7_begin_7 ?_
  refine m_tops (fun τ14 eτ14 => ?_)
  have i15 : Inv τ14 := eτ14 ▸ Inv.put i12 (by decide) ha2
  have f16 : Fr MS_X7_begin AS_X7_begin σ τ14 := eτ14 ▸ Fr.put (f13) (Or.inl (by decide))
  refine m_iconst (v := 0) C dX7_begin_10 (by decide) ?_
  refine m_istore_n (L1 := [some (.ref (G.1 20 j)), some (.int a1), some (.int a2), some (.int 0)]) C dX7_begin_11 rfl (by decide) rfl rfl ?_
  refine m_sub (L1 := [some (.ref (G.1 20 j)), none, none, some (.int 0)]) ⟨rfl, ⟨rfl, trivial⟩⟩ ?_
  exact J12 ((40 - (0 : Int32).toInt).toNat + 1) τ14 0 i15 f16 (iv_any a1) ha2 (iv_wk kc_0 (by decide)) (Nat.lt_succ_self _)

abbrev MS_X7_end : List (Nat × Nat) := [(20, 1), (20, 2)]
abbrev AS_X7_end : List Nat := []
set_option maxHeartbeats 4000000 in
set_option maxRecDepth 100000 in
theorem c_X7_end (l : Launch) (G : Gt) (σ : Sg) {j : Nat} (hj : j < 8) (hI : Inv σ) : Mc l G yX7_end cX7_end 1 none 0 0 0 0 [.ref (G.1 20 j)] σ (PV fun τ => Inv τ ∧ Fr MS_X7_end AS_X7_end σ τ) := by
  refine Mc.of (L0 := [some (.ref (G.1 20 j))]) (by decide) (Nat.le_of_ble_eq_true rfl) rfl ?_
  intro p e s m args below meth c C hr hlk
  have C : Cx p s m args c cX7_end 1 "LeanTower$Row" := C
  have k0 : (0 : Int32).toInt = 0 := by decide
  have k1 : (1 : Int32).toInt = 1 := by decide
  refine m_aload_n C dX7_end_0 rfl rfl ?_
  refine m_iconst (v := (-1)) C dX7_end_1 (by decide) ?_
  refine p_20_1 C hj q1_174 dX7_end_2 ?_
  refine m_tops (fun τ1 eτ1 => ?_)
  have i2 : Inv τ1 := eτ1 ▸ Inv.putF hI (by decide) rfl
  have f3 : Fr MS_X7_end AS_X7_end σ τ1 := eτ1 ▸ Fr.put (Fr.rf) (Or.inl (by decide))
  refine m_aload_n C dX7_end_5 rfl rfl ?_
  refine m_iconst (v := 0) C dX7_end_6 (by decide) ?_
  refine p_20_2 C hj q1_176 dX7_end_7 ?_
  refine m_tops (fun τ4 eτ4 => ?_)
  have i5 : Inv τ4 := eτ4 ▸ Inv.put i2 (by decide) (iv_wk kc_0 (by decide))
  have f6 : Fr MS_X7_end AS_X7_end σ τ4 := eτ4 ▸ Fr.put (f3) (Or.inl (by decide))
  exact m_vret C hr hlk (by decide) (by decide) dX7_end_10 ⟨rfl, i5, f6⟩

abbrev MS_X7_narrowed : List (Nat × Nat) := []
abbrev AS_X7_narrowed : List Nat := []
set_option maxHeartbeats 4000000 in
set_option maxRecDepth 100000 in
theorem c_X7_narrowed (l : Launch) (G : Gt) (σ : Sg) {j : Nat} (hj : j < 8) (a1 : Int32) (hI : Inv σ) : Mc l G yX7_narrowed cX7_narrowed 2 (some .int) 0 0 0 0 [.ref (G.1 20 j), .int a1] σ (PI fun r τ => Inv τ ∧ Fr MS_X7_narrowed AS_X7_narrowed σ τ ∧ IV r (-2147483648) 2147483647) := by
  refine Mc.of (L0 := [some (.ref (G.1 20 j)), some (.int a1)]) (by decide) (Nat.le_of_ble_eq_true rfl) rfl ?_
  intro p e s m args below meth c C hr hlk
  have C : Cx p s m args c cX7_narrowed 2 "LeanTower$Row" := C
  have k0 : (0 : Int32).toInt = 0 := by decide
  have k1 : (1 : Int32).toInt = 1 := by decide
  refine m_aload_n C dX7_narrowed_0 rfl rfl ?_
  refine g_20_1 C hj q1_174 dX7_narrowed_1 ?_
  refine m_topi (fun x1 ex1 => ?_)
  by_cases s2 : x1.toInt = 0
  · refine m_lookup (tgt := 32) (off := 28) C dX7_narrowed_4 rfl (by rw [s2]; rfl) (by decide) ?_
    refine m_iload_n C dX7_narrowed_32 rfl rfl ?_
    refine m_i2b C dX7_narrowed_33 ?_
    refine m_topi (fun x3 ex3 => ?_)
    exact m_iret C hr hlk (by decide) (by decide) dX7_narrowed_34 ⟨_, rfl, hI, Fr.rf, (iv_any x3)⟩
  by_cases s4 : x1.toInt = 1
  · refine m_lookup (tgt := 35) (off := 31) C dX7_narrowed_4 rfl (by rw [s4]; rfl) (by decide) ?_
    refine m_iload_n C dX7_narrowed_35 rfl rfl ?_
    refine m_i2s C dX7_narrowed_36 ?_
    refine m_topi (fun x5 ex5 => ?_)
    exact m_iret C hr hlk (by decide) (by decide) dX7_narrowed_37 ⟨_, rfl, hI, Fr.rf, (iv_any x5)⟩
  refine m_lookup (tgt := 38) (off := 34) C dX7_narrowed_4 rfl (by simp [Op.lookupswitch.offset, Ne.symm s2, Ne.symm s4]) (by decide) ?_
  refine m_iload_n C dX7_narrowed_38 rfl rfl ?_
  exact m_iret C hr hlk (by decide) (by decide) dX7_narrowed_39 ⟨_, rfl, hI, Fr.rf, (iv_any a1)⟩

abbrev MS_X7_reaches : List (Nat × Nat) := []
abbrev AS_X7_reaches : List Nat := []
set_option maxHeartbeats 4000000 in
set_option maxRecDepth 100000 in
theorem c_X7_reaches (l : Launch) (G : Gt) (σ : Sg) {j : Nat} (hj : j < 8) (a1 : Int32) (a2 : Int32) (hI : Inv σ) : Mc l G yX7_reaches cX7_reaches 3 (some .boolean) 0 0 0 0 [.ref (G.1 20 j), .int a1, .int a2] σ (PI fun r τ => Inv τ ∧ Fr MS_X7_reaches AS_X7_reaches σ τ ∧ IV r 0 1 ∧ ((r.toInt = 1 ∧ 0 ≤ a1.toInt ∧ 0 ≤ a2.toInt ∧ a1.toInt + a2.toInt ≤ 40) ∨ r.toInt = 0)) := by
  refine Mc.of (L0 := [some (.ref (G.1 20 j)), some (.int a1), some (.int a2)]) (by decide) (Nat.le_of_ble_eq_true rfl) rfl ?_
  intro p e s m args below meth c C hr hlk
  have C : Cx p s m args c cX7_reaches 3 "LeanTower$Row" := C
  have k0 : (0 : Int32).toInt = 0 := by decide
  have k1 : (1 : Int32).toInt = 1 := by decide
  refine m_iload_n C dX7_reaches_0 rfl rfl ?_
  refine m_if_lt (tgt := 30) C dX7_reaches_1 (by decide) (fun c1 => ?_) (fun c1 => ?_)
  · have f2 : a1.toInt < 0 := by
      have q : _ := c1
      simp only [ti_nle, ti_nlt, ti_le, ti_lt, ti_eq, ti_ne, Classical.not_not, kt_0] at q
      omega
    have b3 : IV a1 (-2147483648) (-1) := ⟨by have q1 := (iv_any a1); have q2 := kc_0; omega, by have q1 := (iv_any a1); have q2 := kc_0; omega⟩
    refine m_iconst (v := 0) C dX7_reaches_30 (by decide) ?_
    exact m_zret C hr rfl hlk (by decide) (by decide) dX7_reaches_31 ⟨_, rfl, hI, Fr.rf, (iv_wk kc_0 (by decide)), (by omega)⟩
  · have f4 : 0 ≤ a1.toInt := by
      have q : _ := c1
      simp only [ti_nle, ti_nlt, ti_le, ti_lt, ti_eq, ti_ne, Classical.not_not, kt_0] at q
      omega
    have b5 : IV a1 0 2147483647 := ⟨by have q1 := kc_0; have q2 := (iv_any a1); omega, by have q1 := kc_0; have q2 := (iv_any a1); omega⟩
    refine m_iload_n C dX7_reaches_4 rfl rfl ?_
    refine m_if_lt (tgt := 30) C dX7_reaches_5 (by decide) (fun c6 => ?_) (fun c6 => ?_)
    · have f7 : a2.toInt < 0 := by
        have q : _ := c6
        simp only [ti_nle, ti_nlt, ti_le, ti_lt, ti_eq, ti_ne, Classical.not_not, kt_0] at q
        omega
      have b8 : IV a2 (-2147483648) (-1) := ⟨by have q1 := (iv_any a2); have q2 := kc_0; omega, by have q1 := (iv_any a2); have q2 := kc_0; omega⟩
      refine m_iconst (v := 0) C dX7_reaches_30 (by decide) ?_
      exact m_zret C hr rfl hlk (by decide) (by decide) dX7_reaches_31 ⟨_, rfl, hI, Fr.rf, (iv_wk kc_0 (by decide)), (by omega)⟩
    · have f9 : 0 ≤ a2.toInt := by
        have q : _ := c6
        simp only [ti_nle, ti_nlt, ti_le, ti_lt, ti_eq, ti_ne, Classical.not_not, kt_0] at q
        omega
      have b10 : IV a2 0 2147483647 := ⟨by have q1 := kc_0; have q2 := (iv_any a2); omega, by have q1 := kc_0; have q2 := (iv_any a2); omega⟩
      refine m_iload_n C dX7_reaches_8 rfl rfl ?_
      refine m_aload_n C dX7_reaches_9 rfl rfl ?_
      refine g_20_2 C hj q1_176 dX7_reaches_10 ?_
      refine m_topi (fun x11 ex11 => ?_)
      have b12 : IV x11 0 40 := by rw [ex11]; exact hI.1 20 j 2
      refine m_icmp_gt (tgt := 30) C dX7_reaches_13 (by decide) (fun c13 => ?_) (fun c13 => ?_)
      · have f14 : x11.toInt < a1.toInt := by
          have q : _ := c13
          simp only [ti_nle, ti_nlt, ti_le, ti_lt, ti_eq, ti_ne, Classical.not_not] at q
          omega
        have b15 : IV a1 1 2147483647 := ⟨by have q1 := b12; have q2 := b5; omega, by have q1 := b12; have q2 := b5; omega⟩
        refine m_iconst (v := 0) C dX7_reaches_30 (by decide) ?_
        exact m_zret C hr rfl hlk (by decide) (by decide) dX7_reaches_31 ⟨_, rfl, hI, Fr.rf, (iv_wk kc_0 (by decide)), (by omega)⟩
      · have f16 : a1.toInt ≤ x11.toInt := by
          have q : _ := c13
          simp only [ti_nle, ti_nlt, ti_le, ti_lt, ti_eq, ti_ne, Classical.not_not] at q
          omega
        have b17 : IV a1 0 40 := ⟨by have q1 := b5; have q2 := b12; omega, by have q1 := b5; have q2 := b12; omega⟩
        refine m_iload_n C dX7_reaches_16 rfl rfl ?_
        refine m_aload_n C dX7_reaches_17 rfl rfl ?_
        refine g_20_2 C hj q1_176 dX7_reaches_18 ?_
        refine m_eqs (w := x11) ex11.symm ?_
        refine m_iload_n C dX7_reaches_21 rfl rfl ?_
        refine m_isub C dX7_reaches_22 ?_
        refine m_topi (fun x18 ex18 => ?_)
        have tx18 : x18.toInt = x11.toInt - a1.toInt := by rw [ex18, ti_subv b12 b17 (by decide)]
        have b19 : IV x18 (-40) 40 := by rw [ex18]; exact iv_sub b12 b17 (by decide)
        refine m_icmp_gt (tgt := 30) C dX7_reaches_23 (by decide) (fun c20 => ?_) (fun c20 => ?_)
        · have f21 : x18.toInt < a2.toInt := by
            have q : _ := c20
            simp only [ti_nle, ti_nlt, ti_le, ti_lt, ti_eq, ti_ne, Classical.not_not] at q
            omega
          refine m_iconst (v := 0) C dX7_reaches_30 (by decide) ?_
          exact m_zret C hr rfl hlk (by decide) (by decide) dX7_reaches_31 ⟨_, rfl, hI, Fr.rf, (iv_wk kc_0 (by decide)), (by omega)⟩
        · have f22 : a2.toInt ≤ x18.toInt := by
            have q : _ := c20
            simp only [ti_nle, ti_nlt, ti_le, ti_lt, ti_eq, ti_ne, Classical.not_not] at q
            omega
          have b23 : IV a2 0 40 := ⟨by have q1 := b10; have q2 := b19; omega, by have q1 := b10; have q2 := b19; omega⟩
          have b24 : IV x18 0 40 := ⟨by have q1 := b10; have q2 := b19; omega, by have q1 := b10; have q2 := b19; omega⟩
          refine m_iconst (v := 1) C dX7_reaches_26 (by decide) ?_
          refine m_goto (tgt := 31) C dX7_reaches_27 (by decide) ?_
          exact m_zret C hr rfl hlk (by decide) (by decide) dX7_reaches_31 ⟨_, rfl, hI, Fr.rf, (iv_wk kc_1 (by decide)), (by omega)⟩

abbrev MS_X7_holds : List (Nat × Nat) := []
abbrev AS_X7_holds : List Nat := []
set_option maxHeartbeats 4000000 in
set_option maxRecDepth 100000 in
theorem c_X7_holds (l : Launch) (G : Gt) (σ : Sg) {j : Nat} (hj : j < 8) (a1 : Int32) (a2 : Int32) (a3 : Int32) (hI : Inv σ) : Mc l G yX7_holds cX7_holds 5 (some .boolean) 0 0 0 0 [.ref (G.1 20 j), .int a1, .int a2, .int a3] σ (PI fun r τ => Inv τ ∧ Fr MS_X7_holds AS_X7_holds σ τ ∧ IV r 0 1) := by
  refine Mc.of (L0 := [some (.ref (G.1 20 j)), some (.int a1), some (.int a2), some (.int a3), none]) (by decide) (Nat.le_of_ble_eq_true rfl) rfl ?_
  intro p e s m args below meth c C hr hlk
  have C : Cx p s m args c cX7_holds 5 "LeanTower$Row" := C
  have k0 : (0 : Int32).toInt = 0 := by decide
  have k1 : (1 : Int32).toInt = 1 := by decide
  have J3 : ∀ (n : Nat) (τ : Sg) (y4 : Int32), Inv τ → Fr MS_X7_holds AS_X7_holds σ τ → IV a1 (-2147483648) 2147483647 → IV a2 (-2147483648) 2147483647 → IV a3 (-2147483648) 2147483647 → IV y4 0 40 → (40 - y4.toInt).toNat < n → MW p l e { frames := 0, cells := 0, slots := 0, locals := 0 } s m args below meth c (MQ below (QP G (PI fun r τ => Inv τ ∧ Fr MS_X7_holds AS_X7_holds σ τ ∧ IV r 0 1)) args s 0 0 (aG G)) 5 G 0 0 3 [some (.ref (G.1 20 j)), some (.int a1), some (.int a2), some (.int a3), some (.int y4)] [] τ := by
    intro n
    induction n with
    | zero => intro τ y4 iτ fτ b_a1 b_a2 b_a3 b_y4 hm; exact absurd hm (Nat.not_lt_zero _)
    | succ n ih3 =>
      intro τ y4 iτ fτ b_a1 b_a2 b_a3 b_y4 hm3
      refine m_iload C dX7_holds_3 rfl ?_
      refine m_iload_n C dX7_holds_5 rfl rfl ?_
      refine m_icmp_ge (tgt := 46) C dX7_holds_6 (by decide) (fun c1 => ?_) (fun c1 => ?_)
      · have f2 : a1.toInt ≤ y4.toInt := by
          have q : _ := c1
          simp only [ti_nle, ti_nlt, ti_le, ti_lt, ti_eq, ti_ne, Classical.not_not] at q
          omega
        have b3 : IV a1 (-2147483648) 40 := ⟨by have q1 := b_a1; have q2 := b_y4; omega, by have q1 := b_a1; have q2 := b_y4; omega⟩
        refine m_iconst (v := 1) C dX7_holds_46 (by decide) ?_
        exact m_zret C hr rfl hlk (by decide) (by decide) dX7_holds_47 ⟨_, rfl, iτ, fτ, (iv_wk kc_1 (by decide))⟩
      · have f4 : y4.toInt < a1.toInt := by
          have q : _ := c1
          simp only [ti_nle, ti_nlt, ti_le, ti_lt, ti_eq, ti_ne, Classical.not_not] at q
          omega
        have b5 : IV a1 1 2147483647 := ⟨by have q1 := b_y4; have q2 := b_a1; omega, by have q1 := b_y4; have q2 := b_a1; omega⟩
        refine m_iload C dX7_holds_9 rfl ?_
        refine m_bipush (v := 40) C dX7_holds_11 (by decide) ?_
        refine m_icmp_ge (tgt := 46) C dX7_holds_13 (by decide) (fun c6 => ?_) (fun c6 => ?_)
        · have f7 : 40 ≤ y4.toInt := by
            have q : _ := c6
            simp only [ti_nle, ti_nlt, ti_le, ti_lt, ti_eq, ti_ne, Classical.not_not, kt_40] at q
            omega
          have b8 : IV y4 40 40 := ⟨by have q1 := kc_40; have q2 := b_y4; omega, by have q1 := kc_40; have q2 := b_y4; omega⟩
          refine m_iconst (v := 1) C dX7_holds_46 (by decide) ?_
          exact m_zret C hr rfl hlk (by decide) (by decide) dX7_holds_47 ⟨_, rfl, iτ, fτ, (iv_wk kc_1 (by decide))⟩
        · have f9 : y4.toInt < 40 := by
            have q : _ := c6
            simp only [ti_nle, ti_nlt, ti_le, ti_lt, ti_eq, ti_ne, Classical.not_not, kt_40] at q
            omega
          have b10 : IV y4 0 39 := ⟨by have q1 := b_y4; have q2 := kc_40; omega, by have q1 := b_y4; have q2 := kc_40; omega⟩
          refine m_aload_n C dX7_holds_16 rfl rfl ?_
          refine g_20_0 C hj q1_172 dX7_holds_17 ?_
          refine m_iload C dX7_holds_20 rfl ?_
          refine al_21 C hj b10 (by decide) rfl dX7_holds_22 ?_
          refine m_topi (fun x11 ex11 => ?_)
          refine m_iload_n C dX7_holds_23 rfl rfl ?_
          refine m_icmp_lt (tgt := 38) C dX7_holds_24 (by decide) (fun c12 => ?_) (fun c12 => ?_)
          · have f13 : x11.toInt < a2.toInt := by
              have q : _ := c12
              simp only [ti_nle, ti_nlt, ti_le, ti_lt, ti_eq, ti_ne, Classical.not_not] at q
              omega
            have b14 : IV x11 (-2147483648) 2147483646 := ⟨by have q1 := (iv_any x11); have q2 := b_a2; omega, by have q1 := (iv_any x11); have q2 := b_a2; omega⟩
            have b15 : IV a2 (-2147483647) 2147483647 := ⟨by have q1 := (iv_any x11); have q2 := b_a2; omega, by have q1 := (iv_any x11); have q2 := b_a2; omega⟩
            refine m_iconst (v := 0) C dX7_holds_38 (by decide) ?_
            exact m_zret C hr rfl hlk (by decide) (by decide) dX7_holds_39 ⟨_, rfl, iτ, fτ, (iv_wk kc_0 (by decide))⟩
          · have f16 : a2.toInt ≤ x11.toInt := by
              have q : _ := c12
              simp only [ti_nle, ti_nlt, ti_le, ti_lt, ti_eq, ti_ne, Classical.not_not] at q
              omega
            refine m_aload_n C dX7_holds_27 rfl rfl ?_
            refine g_20_0 C hj q1_172 dX7_holds_28 ?_
            refine m_iload C dX7_holds_31 rfl ?_
            refine al_21 C hj b10 (by decide) rfl dX7_holds_33 ?_
            refine m_eqs (w := x11) ex11.symm ?_
            refine m_iload_n C dX7_holds_34 rfl rfl ?_
            refine m_icmp_le (tgt := 40) C dX7_holds_35 (by decide) (fun c17 => ?_) (fun c17 => ?_)
            · have f18 : x11.toInt ≤ a3.toInt := by
                have q : _ := c17
                simp only [ti_nle, ti_nlt, ti_le, ti_lt, ti_eq, ti_ne, Classical.not_not] at q
                omega
              obtain ⟨x19, ex19⟩ : ∃ y : Int32, y = y4 + 1 := ⟨_, rfl⟩
              have tx19 : x19.toInt = y4.toInt + 1 := by rw [ex19, ti_addv b10 kc_1 (by decide), kt_1]
              have b20 : IV x19 1 40 := by rw [ex19]; exact iv_add b10 kc_1 (by decide)
              refine m_iinc (v := x19) (L1 := [some (.ref (G.1 20 j)), some (.int a1), some (.int a2), some (.int a3), some (.int x19)]) C dX7_holds_40 rfl (by rw [ex19]; rfl) (by decide) rfl rfl ?_
              refine m_goto (tgt := 3) C dX7_holds_43 (by decide) ?_
              exact ih3 τ x19 iτ fτ (iv_wk b5 (by decide)) b_a2 b_a3 (iv_wk b20 (by decide)) (by have q := hm3; omega)
            · have f21 : a3.toInt < x11.toInt := by
                have q : _ := c17
                simp only [ti_nle, ti_nlt, ti_le, ti_lt, ti_eq, ti_ne, Classical.not_not] at q
                omega
              have b22 : IV a3 (-2147483648) 2147483646 := ⟨by have q1 := b_a3; have q2 := (iv_any x11); omega, by have q1 := b_a3; have q2 := (iv_any x11); omega⟩
              have b23 : IV x11 (-2147483647) 2147483647 := ⟨by have q1 := b_a3; have q2 := (iv_any x11); omega, by have q1 := b_a3; have q2 := (iv_any x11); omega⟩
              refine m_iconst (v := 0) C dX7_holds_38 (by decide) ?_
              exact m_zret C hr rfl hlk (by decide) (by decide) dX7_holds_39 ⟨_, rfl, iτ, fτ, (iv_wk kc_0 (by decide))⟩
  refine m_iconst (v := 0) C dX7_holds_0 (by decide) ?_
  refine m_istore (L1 := [some (.ref (G.1 20 j)), some (.int a1), some (.int a2), some (.int a3), some (.int 0)]) C dX7_holds_1 (by decide) rfl rfl ?_
  exact J3 ((40 - (0 : Int32).toInt).toNat + 1) σ 0 hI Fr.rf (iv_any a1) (iv_any a2) (iv_any a3) (iv_wk kc_0 (by decide)) (Nat.lt_succ_self _)

abbrev MS_X9_leave : List (Nat × Nat) := [(14, 1)]
abbrev AS_X9_leave : List Nat := [15]
set_option maxHeartbeats 4000000 in
set_option maxRecDepth 100000 in
theorem c_X9_leave (l : Launch) (G : Gt) (σ : Sg) (a1 : Int32) (hI : Inv σ) : Mc l G yX9_leave cX9_leave 2 none 0 0 0 0 [.ref (G.1 14 0), .int a1] σ (PV fun τ => Inv τ ∧ Fr MS_X9_leave AS_X9_leave σ τ) := by
  refine Mc.of (L0 := [some (.ref (G.1 14 0)), some (.int a1)]) (by decide) (Nat.le_of_ble_eq_true rfl) rfl ?_
  intro p e s m args below meth c C hr hlk
  have C : Cx p s m args c cX9_leave 2 "LeanTower$Trace" := C
  have k0 : (0 : Int32).toInt = 0 := by decide
  have k1 : (1 : Int32).toInt = 1 := by decide
  refine m_aload_n C dX9_leave_0 rfl rfl ?_
  refine g_14_1 C q1_136 dX9_leave_1 ?_
  refine m_topi (fun x1 ex1 => ?_)
  have b2 : IV x1 0 16 := by rw [ex1]; exact hI.1 14 0 1
  refine m_bipush (v := 16) C dX9_leave_4 (by decide) ?_
  refine m_icmp_ge (tgt := 29) C dX9_leave_6 (by decide) (fun c3 => ?_) (fun c3 => ?_)
  · have f4 : 16 ≤ x1.toInt := by
      have q : _ := c3
      simp only [ti_nle, ti_nlt, ti_le, ti_lt, ti_eq, ti_ne, Classical.not_not, kt_16] at q
      omega
    have b5 : IV x1 16 16 := ⟨by have q1 := kc_16; have q2 := b2; omega, by have q1 := kc_16; have q2 := b2; omega⟩
    exact m_vret C hr hlk (by decide) (by decide) dX9_leave_29 ⟨rfl, hI, Fr.rf⟩
  · have f6 : x1.toInt < 16 := by
      have q : _ := c3
      simp only [ti_nle, ti_nlt, ti_le, ti_lt, ti_eq, ti_ne, Classical.not_not, kt_16] at q
      omega
    have b7 : IV x1 0 15 := ⟨by have q1 := b2; have q2 := kc_16; omega, by have q1 := b2; have q2 := kc_16; omega⟩
    refine m_aload_n C dX9_leave_9 rfl rfl ?_
    refine g_14_0 C q1_134 dX9_leave_10 ?_
    refine m_aload_n C dX9_leave_13 rfl rfl ?_
    refine g_14_1 C q1_136 dX9_leave_14 ?_
    refine m_eqs (w := x1) ex1.symm ?_
    refine m_iload_n C dX9_leave_17 rfl rfl ?_
    refine as_15 C b7 (by decide) rfl dX9_leave_18 ?_
    refine m_tops (fun τ8 eτ8 => ?_)
    have i9 : Inv τ8 := eτ8 ▸ Inv.putF hI (by decide) rfl
    have f10 : Fr MS_X9_leave AS_X9_leave σ τ8 := eτ8 ▸ Fr.put (Fr.rf) (Or.inr (by decide))
    refine m_aload_n C dX9_leave_19 rfl rfl ?_
    refine m_dup C dX9_leave_20 rfl ?_
    refine g_14_1 C q1_136 dX9_leave_21 ?_
    refine m_eqs (w := x1) (show gV τ8 14 0 1 = x1 from gV_put eτ8 ex1.symm) ?_
    refine m_iconst (v := 1) C dX9_leave_24 (by decide) ?_
    refine m_iadd C dX9_leave_25 ?_
    refine m_topi (fun x11 ex11 => ?_)
    have tx11 : x11.toInt = x1.toInt + 1 := by rw [ex11, ti_addv b7 kc_1 (by decide), kt_1]
    have b12 : IV x11 1 16 := by rw [ex11]; exact iv_add b7 kc_1 (by decide)
    refine p_14_1 C q1_136 dX9_leave_26 ?_
    refine m_tops (fun τ13 eτ13 => ?_)
    have i14 : Inv τ13 := eτ13 ▸ Inv.put i9 (by decide) (iv_wk b12 (by decide))
    have f15 : Fr MS_X9_leave AS_X9_leave σ τ13 := eτ13 ▸ Fr.put (f10) (Or.inl (by decide))
    exact m_vret C hr hlk (by decide) (by decide) dX9_leave_29 ⟨rfl, i14, f15⟩

abbrev MS_X8_stands : List (Nat × Nat) := []
abbrev AS_X8_stands : List Nat := []
set_option maxHeartbeats 4000000 in
set_option maxRecDepth 100000 in
theorem c_X8_stands (l : Launch) (G : Gt) (σ : Sg) {j : Nat} (hj : j < 28) (hI : Inv σ) : Mc l G yX8_stands cX8_stands 1 (some .boolean) 0 0 0 0 [.ref (G.1 1 j)] σ (PI fun r τ => Inv τ ∧ Fr MS_X8_stands AS_X8_stands σ τ ∧ IV r 0 1) := by
  refine Mc.of (L0 := [some (.ref (G.1 1 j))]) (by decide) (Nat.le_of_ble_eq_true rfl) rfl ?_
  intro p e s m args below meth c C hr hlk
  have C : Cx p s m args c cX8_stands 1 "LeanTower$Tower" := C
  have k0 : (0 : Int32).toInt = 0 := by decide
  have k1 : (1 : Int32).toInt = 1 := by decide
  refine m_aload_n C dX8_stands_0 rfl rfl ?_
  refine g_1_0 C hj q1_74 dX8_stands_1 ?_
  refine m_topi (fun x1 ex1 => ?_)
  refine m_if_le (tgt := 11) C dX8_stands_4 (by decide) (fun c2 => ?_) (fun c2 => ?_)
  · have f3 : x1.toInt ≤ 0 := by
      have q : _ := c2
      simp only [ti_nle, ti_nlt, ti_le, ti_lt, ti_eq, ti_ne, Classical.not_not, kt_0] at q
      omega
    have b4 : IV x1 (-2147483648) 0 := ⟨by have q1 := (iv_any x1); have q2 := kc_0; omega, by have q1 := (iv_any x1); have q2 := kc_0; omega⟩
    refine m_iconst (v := 0) C dX8_stands_11 (by decide) ?_
    exact m_zret C hr rfl hlk (by decide) (by decide) dX8_stands_12 ⟨_, rfl, hI, Fr.rf, (iv_wk kc_0 (by decide))⟩
  · have f5 : 0 < x1.toInt := by
      have q : _ := c2
      simp only [ti_nle, ti_nlt, ti_le, ti_lt, ti_eq, ti_ne, Classical.not_not, kt_0] at q
      omega
    have b6 : IV x1 1 2147483647 := ⟨by have q1 := kc_0; have q2 := (iv_any x1); omega, by have q1 := kc_0; have q2 := (iv_any x1); omega⟩
    refine m_iconst (v := 1) C dX8_stands_7 (by decide) ?_
    refine m_goto (tgt := 12) C dX8_stands_8 (by decide) ?_
    exact m_zret C hr rfl hlk (by decide) (by decide) dX8_stands_12 ⟨_, rfl, hI, Fr.rf, (iv_wk kc_1 (by decide))⟩

abbrev MS_X8_clear : List (Nat × Nat) := [(1, 0), (1, 1), (1, 2), (1, 3), (1, 9), (1, 10), (1, 11)]
abbrev AS_X8_clear : List Nat := []
set_option maxHeartbeats 4000000 in
set_option maxRecDepth 100000 in
theorem c_X8_clear (l : Launch) (G : Gt) (σ : Sg) {j : Nat} (hj : j < 28) (hI : Inv σ) : Mc l G yX8_clear cX8_clear 1 none 0 0 0 0 [.ref (G.1 1 j)] σ (PV fun τ => Inv τ ∧ Fr MS_X8_clear AS_X8_clear σ τ) := by
  refine Mc.of (L0 := [some (.ref (G.1 1 j))]) (by decide) (Nat.le_of_ble_eq_true rfl) rfl ?_
  intro p e s m args below meth c C hr hlk
  have C : Cx p s m args c cX8_clear 1 "LeanTower$Tower" := C
  have k0 : (0 : Int32).toInt = 0 := by decide
  have k1 : (1 : Int32).toInt = 1 := by decide
  refine m_aload_n C dX8_clear_0 rfl rfl ?_
  refine m_iconst (v := 0) C dX8_clear_1 (by decide) ?_
  refine p_1_0 C hj q1_74 dX8_clear_2 ?_
  refine m_tops (fun τ1 eτ1 => ?_)
  have i2 : Inv τ1 := eτ1 ▸ Inv.putF hI (by decide) rfl
  have f3 : Fr MS_X8_clear AS_X8_clear σ τ1 := eτ1 ▸ Fr.put (Fr.rf) (Or.inl (by decide))
  refine m_aload_n C dX8_clear_5 rfl rfl ?_
  refine m_iconst (v := 0) C dX8_clear_6 (by decide) ?_
  refine p_1_1 C hj q1_77 dX8_clear_7 ?_
  refine m_tops (fun τ4 eτ4 => ?_)
  have i5 : Inv τ4 := eτ4 ▸ Inv.putF i2 (by decide) rfl
  have f6 : Fr MS_X8_clear AS_X8_clear σ τ4 := eτ4 ▸ Fr.put (f3) (Or.inl (by decide))
  refine m_aload_n C dX8_clear_10 rfl rfl ?_
  refine m_iconst (v := 0) C dX8_clear_11 (by decide) ?_
  refine p_1_2 C hj q1_80 dX8_clear_12 ?_
  refine m_tops (fun τ7 eτ7 => ?_)
  have i8 : Inv τ7 := eτ7 ▸ Inv.put i5 (by decide) (iv_wk kc_0 (by decide))
  have f9 : Fr MS_X8_clear AS_X8_clear σ τ7 := eτ7 ▸ Fr.put (f6) (Or.inl (by decide))
  refine m_aload_n C dX8_clear_15 rfl rfl ?_
  refine m_iconst (v := 0) C dX8_clear_16 (by decide) ?_
  refine p_1_3 C hj q1_83 dX8_clear_17 ?_
  refine m_tops (fun τ10 eτ10 => ?_)
  have i11 : Inv τ10 := eτ10 ▸ Inv.put i8 (by decide) (iv_wk kc_0 (by decide))
  have f12 : Fr MS_X8_clear AS_X8_clear σ τ10 := eτ10 ▸ Fr.put (f9) (Or.inl (by decide))
  refine m_aload_n C dX8_clear_20 rfl rfl ?_
  refine m_iconst (v := 0) C dX8_clear_21 (by decide) ?_
  refine p_1_9 C hj q1_95 dX8_clear_22 ?_
  refine m_tops (fun τ13 eτ13 => ?_)
  have i14 : Inv τ13 := eτ13 ▸ Inv.putF i11 (by decide) rfl
  have f15 : Fr MS_X8_clear AS_X8_clear σ τ13 := eτ13 ▸ Fr.put (f12) (Or.inl (by decide))
  refine m_aload_n C dX8_clear_25 rfl rfl ?_
  refine m_iconst (v := 0) C dX8_clear_26 (by decide) ?_
  refine p_1_10 C hj q1_97 dX8_clear_27 ?_
  refine m_tops (fun τ16 eτ16 => ?_)
  have i17 : Inv τ16 := eτ16 ▸ Inv.putF i14 (by decide) rfl
  have f18 : Fr MS_X8_clear AS_X8_clear σ τ16 := eτ16 ▸ Fr.put (f15) (Or.inl (by decide))
  refine m_aload_n C dX8_clear_30 rfl rfl ?_
  refine m_iconst (v := 0) C dX8_clear_31 (by decide) ?_
  refine p_1_11 C hj q1_99 dX8_clear_32 ?_
  refine m_tops (fun τ19 eτ19 => ?_)
  have i20 : Inv τ19 := eτ19 ▸ Inv.putF i17 (by decide) rfl
  have f21 : Fr MS_X8_clear AS_X8_clear σ τ19 := eτ19 ▸ Fr.put (f18) (Or.inl (by decide))
  exact m_vret C hr hlk (by decide) (by decide) dX8_clear_35 ⟨rfl, i20, f21⟩

abbrev MS_X8_addStone : List (Nat × Nat) := [(1, 3)]
abbrev AS_X8_addStone : List Nat := [4, 5]
set_option maxHeartbeats 4000000 in
set_option maxRecDepth 100000 in
theorem c_X8_addStone (l : Launch) (G : Gt) (σ : Sg) {j : Nat} (hj : j < 28) (a1 : Int32) (a2 : Int32) (hI : Inv σ) : Mc l G yX8_addStone cX8_addStone 3 none 0 0 0 0 [.ref (G.1 1 j), .int a1, .int a2] σ (PV fun τ => Inv τ ∧ Fr MS_X8_addStone AS_X8_addStone σ τ) := by
  refine Mc.of (L0 := [some (.ref (G.1 1 j)), some (.int a1), some (.int a2)]) (by decide) (Nat.le_of_ble_eq_true rfl) rfl ?_
  intro p e s m args below meth c C hr hlk
  have C : Cx p s m args c cX8_addStone 3 "LeanTower$Tower" := C
  have k0 : (0 : Int32).toInt = 0 := by decide
  have k1 : (1 : Int32).toInt = 1 := by decide
  refine m_aload_n C dX8_addStone_0 rfl rfl ?_
  refine g_1_3 C hj q1_83 dX8_addStone_1 ?_
  refine m_topi (fun x1 ex1 => ?_)
  have b2 : IV x1 0 4 := by rw [ex1]; exact hI.1 1 j 3
  refine m_iconst (v := 4) C dX8_addStone_4 (by decide) ?_
  refine m_icmp_ge (tgt := 38) C dX8_addStone_5 (by decide) (fun c3 => ?_) (fun c3 => ?_)
  · have f4 : 4 ≤ x1.toInt := by
      have q : _ := c3
      simp only [ti_nle, ti_nlt, ti_le, ti_lt, ti_eq, ti_ne, Classical.not_not, kt_4] at q
      omega
    have b5 : IV x1 4 4 := ⟨by have q1 := kc_4; have q2 := b2; omega, by have q1 := kc_4; have q2 := b2; omega⟩
    exact m_vret C hr hlk (by decide) (by decide) dX8_addStone_38 ⟨rfl, hI, Fr.rf⟩
  · have f6 : x1.toInt < 4 := by
      have q : _ := c3
      simp only [ti_nle, ti_nlt, ti_le, ti_lt, ti_eq, ti_ne, Classical.not_not, kt_4] at q
      omega
    have b7 : IV x1 0 3 := ⟨by have q1 := b2; have q2 := kc_4; omega, by have q1 := b2; have q2 := kc_4; omega⟩
    refine m_aload_n C dX8_addStone_8 rfl rfl ?_
    refine g_1_7 C hj q1_91 dX8_addStone_9 ?_
    refine m_aload_n C dX8_addStone_12 rfl rfl ?_
    refine g_1_3 C hj q1_83 dX8_addStone_13 ?_
    refine m_eqs (w := x1) ex1.symm ?_
    refine m_iload_n C dX8_addStone_16 rfl rfl ?_
    refine as_4 C hj b7 (by decide) rfl dX8_addStone_17 ?_
    refine m_tops (fun τ8 eτ8 => ?_)
    have i9 : Inv τ8 := eτ8 ▸ Inv.putF hI (by decide) rfl
    have f10 : Fr MS_X8_addStone AS_X8_addStone σ τ8 := eτ8 ▸ Fr.put (Fr.rf) (Or.inr (by decide))
    refine m_aload_n C dX8_addStone_18 rfl rfl ?_
    refine g_1_8 C hj q1_93 dX8_addStone_19 ?_
    refine m_aload_n C dX8_addStone_22 rfl rfl ?_
    refine g_1_3 C hj q1_83 dX8_addStone_23 ?_
    refine m_eqs (w := x1) (show gV τ8 1 j 3 = x1 from gV_put eτ8 ex1.symm) ?_
    refine m_iload_n C dX8_addStone_26 rfl rfl ?_
    refine as_5 C hj b7 (by decide) rfl dX8_addStone_27 ?_
    refine m_tops (fun τ11 eτ11 => ?_)
    have i12 : Inv τ11 := eτ11 ▸ Inv.putF i9 (by decide) rfl
    have f13 : Fr MS_X8_addStone AS_X8_addStone σ τ11 := eτ11 ▸ Fr.put (f10) (Or.inr (by decide))
    refine m_aload_n C dX8_addStone_28 rfl rfl ?_
    refine m_dup C dX8_addStone_29 rfl ?_
    refine g_1_3 C hj q1_83 dX8_addStone_30 ?_
    refine m_eqs (w := x1) (show gV τ11 1 j 3 = x1 from gV_put eτ11 (show gV τ8 1 j 3 = x1 from gV_put eτ8 ex1.symm)) ?_
    refine m_iconst (v := 1) C dX8_addStone_33 (by decide) ?_
    refine m_iadd C dX8_addStone_34 ?_
    refine m_topi (fun x14 ex14 => ?_)
    have tx14 : x14.toInt = x1.toInt + 1 := by rw [ex14, ti_addv b7 kc_1 (by decide), kt_1]
    have b15 : IV x14 1 4 := by rw [ex14]; exact iv_add b7 kc_1 (by decide)
    refine p_1_3 C hj q1_83 dX8_addStone_35 ?_
    refine m_tops (fun τ16 eτ16 => ?_)
    have i17 : Inv τ16 := eτ16 ▸ Inv.put i12 (by decide) (iv_wk b15 (by decide))
    have f18 : Fr MS_X8_addStone AS_X8_addStone σ τ16 := eτ16 ▸ Fr.put (f13) (Or.inl (by decide))
    exact m_vret C hr hlk (by decide) (by decide) dX8_addStone_38 ⟨rfl, i17, f18⟩

abbrev MS_X8_hasPerson : List (Nat × Nat) := []
abbrev AS_X8_hasPerson : List Nat := []
set_option maxHeartbeats 4000000 in
set_option maxRecDepth 100000 in
theorem c_X8_hasPerson (l : Launch) (G : Gt) (σ : Sg) {j : Nat} (hj : j < 28) (a1 : Int32) (hI : Inv σ) : Mc l G yX8_hasPerson cX8_hasPerson 2 (some .boolean) 0 0 0 0 [.ref (G.1 1 j), .int a1] σ (PI fun r τ => Inv τ ∧ Fr MS_X8_hasPerson AS_X8_hasPerson σ τ ∧ IV r 0 1 ∧ ((r.toInt = 1 ∧ 0 ≤ a1.toInt ∧ a1.toInt ≤ 6) ∨ r.toInt = 0)) := by
  refine Mc.of (L0 := [some (.ref (G.1 1 j)), some (.int a1)]) (by decide) (Nat.le_of_ble_eq_true rfl) rfl ?_
  intro p e s m args below meth c C hr hlk
  have C : Cx p s m args c cX8_hasPerson 2 "LeanTower$Tower" := C
  have k0 : (0 : Int32).toInt = 0 := by decide
  have k1 : (1 : Int32).toInt = 1 := by decide
  refine m_iload_n C dX8_hasPerson_0 rfl rfl ?_
  refine m_if_lt (tgt := 16) C dX8_hasPerson_1 (by decide) (fun c1 => ?_) (fun c1 => ?_)
  · have f2 : a1.toInt < 0 := by
      have q : _ := c1
      simp only [ti_nle, ti_nlt, ti_le, ti_lt, ti_eq, ti_ne, Classical.not_not, kt_0] at q
      omega
    have b3 : IV a1 (-2147483648) (-1) := ⟨by have q1 := (iv_any a1); have q2 := kc_0; omega, by have q1 := (iv_any a1); have q2 := kc_0; omega⟩
    refine m_iconst (v := 0) C dX8_hasPerson_16 (by decide) ?_
    exact m_zret C hr rfl hlk (by decide) (by decide) dX8_hasPerson_17 ⟨_, rfl, hI, Fr.rf, (iv_wk kc_0 (by decide)), (by omega)⟩
  · have f4 : 0 ≤ a1.toInt := by
      have q : _ := c1
      simp only [ti_nle, ti_nlt, ti_le, ti_lt, ti_eq, ti_ne, Classical.not_not, kt_0] at q
      omega
    have b5 : IV a1 0 2147483647 := ⟨by have q1 := kc_0; have q2 := (iv_any a1); omega, by have q1 := kc_0; have q2 := (iv_any a1); omega⟩
    refine m_iload_n C dX8_hasPerson_4 rfl rfl ?_
    refine m_aload_n C dX8_hasPerson_5 rfl rfl ?_
    refine g_1_2 C hj q1_80 dX8_hasPerson_6 ?_
    refine m_topi (fun x6 ex6 => ?_)
    have b7 : IV x6 0 7 := by rw [ex6]; exact hI.1 1 j 2
    refine m_icmp_ge (tgt := 16) C dX8_hasPerson_9 (by decide) (fun c8 => ?_) (fun c8 => ?_)
    · have f9 : x6.toInt ≤ a1.toInt := by
        have q : _ := c8
        simp only [ti_nle, ti_nlt, ti_le, ti_lt, ti_eq, ti_ne, Classical.not_not] at q
        omega
      refine m_iconst (v := 0) C dX8_hasPerson_16 (by decide) ?_
      exact m_zret C hr rfl hlk (by decide) (by decide) dX8_hasPerson_17 ⟨_, rfl, hI, Fr.rf, (iv_wk kc_0 (by decide)), (by omega)⟩
    · have f10 : a1.toInt < x6.toInt := by
        have q : _ := c8
        simp only [ti_nle, ti_nlt, ti_le, ti_lt, ti_eq, ti_ne, Classical.not_not] at q
        omega
      have b11 : IV a1 0 6 := ⟨by have q1 := b5; have q2 := b7; omega, by have q1 := b5; have q2 := b7; omega⟩
      have b12 : IV x6 1 7 := ⟨by have q1 := b5; have q2 := b7; omega, by have q1 := b5; have q2 := b7; omega⟩
      refine m_iconst (v := 1) C dX8_hasPerson_12 (by decide) ?_
      refine m_goto (tgt := 17) C dX8_hasPerson_13 (by decide) ?_
      exact m_zret C hr rfl hlk (by decide) (by decide) dX8_hasPerson_17 ⟨_, rfl, hI, Fr.rf, (iv_wk kc_1 (by decide)), (by omega)⟩

abbrev MS_X8_hasStone : List (Nat × Nat) := []
abbrev AS_X8_hasStone : List Nat := []
set_option maxHeartbeats 4000000 in
set_option maxRecDepth 100000 in
theorem c_X8_hasStone (l : Launch) (G : Gt) (σ : Sg) {j : Nat} (hj : j < 28) (a1 : Int32) (hI : Inv σ) : Mc l G yX8_hasStone cX8_hasStone 2 (some .boolean) 0 0 0 0 [.ref (G.1 1 j), .int a1] σ (PI fun r τ => Inv τ ∧ Fr MS_X8_hasStone AS_X8_hasStone σ τ ∧ IV r 0 1 ∧ ((r.toInt = 1 ∧ 0 ≤ a1.toInt ∧ a1.toInt ≤ 3) ∨ r.toInt = 0)) := by
  refine Mc.of (L0 := [some (.ref (G.1 1 j)), some (.int a1)]) (by decide) (Nat.le_of_ble_eq_true rfl) rfl ?_
  intro p e s m args below meth c C hr hlk
  have C : Cx p s m args c cX8_hasStone 2 "LeanTower$Tower" := C
  have k0 : (0 : Int32).toInt = 0 := by decide
  have k1 : (1 : Int32).toInt = 1 := by decide
  refine m_iload_n C dX8_hasStone_0 rfl rfl ?_
  refine m_if_lt (tgt := 16) C dX8_hasStone_1 (by decide) (fun c1 => ?_) (fun c1 => ?_)
  · have f2 : a1.toInt < 0 := by
      have q : _ := c1
      simp only [ti_nle, ti_nlt, ti_le, ti_lt, ti_eq, ti_ne, Classical.not_not, kt_0] at q
      omega
    have b3 : IV a1 (-2147483648) (-1) := ⟨by have q1 := (iv_any a1); have q2 := kc_0; omega, by have q1 := (iv_any a1); have q2 := kc_0; omega⟩
    refine m_iconst (v := 0) C dX8_hasStone_16 (by decide) ?_
    exact m_zret C hr rfl hlk (by decide) (by decide) dX8_hasStone_17 ⟨_, rfl, hI, Fr.rf, (iv_wk kc_0 (by decide)), (by omega)⟩
  · have f4 : 0 ≤ a1.toInt := by
      have q : _ := c1
      simp only [ti_nle, ti_nlt, ti_le, ti_lt, ti_eq, ti_ne, Classical.not_not, kt_0] at q
      omega
    have b5 : IV a1 0 2147483647 := ⟨by have q1 := kc_0; have q2 := (iv_any a1); omega, by have q1 := kc_0; have q2 := (iv_any a1); omega⟩
    refine m_iload_n C dX8_hasStone_4 rfl rfl ?_
    refine m_aload_n C dX8_hasStone_5 rfl rfl ?_
    refine g_1_3 C hj q1_83 dX8_hasStone_6 ?_
    refine m_topi (fun x6 ex6 => ?_)
    have b7 : IV x6 0 4 := by rw [ex6]; exact hI.1 1 j 3
    refine m_icmp_ge (tgt := 16) C dX8_hasStone_9 (by decide) (fun c8 => ?_) (fun c8 => ?_)
    · have f9 : x6.toInt ≤ a1.toInt := by
        have q : _ := c8
        simp only [ti_nle, ti_nlt, ti_le, ti_lt, ti_eq, ti_ne, Classical.not_not] at q
        omega
      refine m_iconst (v := 0) C dX8_hasStone_16 (by decide) ?_
      exact m_zret C hr rfl hlk (by decide) (by decide) dX8_hasStone_17 ⟨_, rfl, hI, Fr.rf, (iv_wk kc_0 (by decide)), (by omega)⟩
    · have f10 : a1.toInt < x6.toInt := by
        have q : _ := c8
        simp only [ti_nle, ti_nlt, ti_le, ti_lt, ti_eq, ti_ne, Classical.not_not] at q
        omega
      have b11 : IV a1 0 3 := ⟨by have q1 := b5; have q2 := b7; omega, by have q1 := b5; have q2 := b7; omega⟩
      have b12 : IV x6 1 4 := ⟨by have q1 := b5; have q2 := b7; omega, by have q1 := b5; have q2 := b7; omega⟩
      refine m_iconst (v := 1) C dX8_hasStone_12 (by decide) ?_
      refine m_goto (tgt := 17) C dX8_hasStone_13 (by decide) ?_
      exact m_zret C hr rfl hlk (by decide) (by decide) dX8_hasStone_17 ⟨_, rfl, hI, Fr.rf, (iv_wk kc_1 (by decide)), (by omega)⟩

abbrev MS_X8_isOutside : List (Nat × Nat) := []
abbrev AS_X8_isOutside : List Nat := []
set_option maxHeartbeats 4000000 in
set_option maxRecDepth 100000 in
theorem c_X8_isOutside (l : Launch) (G : Gt) (σ : Sg) {j : Nat} (hj : j < 28) (a1 : Int32) (hI : Inv σ) : Mc l G yX8_isOutside cX8_isOutside 2 (some .boolean) 1 21 0 0 [.ref (G.1 1 j), .int a1] σ (PI fun r τ => Inv τ ∧ Fr MS_X8_isOutside AS_X8_isOutside σ τ ∧ IV r 0 1 ∧ ((r.toInt = 1 ∧ 0 ≤ a1.toInt ∧ a1.toInt ≤ 6) ∨ r.toInt = 0)) := by
  refine Mc.of (L0 := [some (.ref (G.1 1 j)), some (.int a1)]) (by decide) (Nat.le_of_ble_eq_true rfl) rfl ?_
  intro p e s m args below meth c C hr hlk
  have C : Cx p s m args c cX8_isOutside 2 "LeanTower$Tower" := C
  have k0 : (0 : Int32).toInt = 0 := by decide
  have k1 : (1 : Int32).toInt = 1 := by decide
  refine m_aload_n C dX8_isOutside_0 rfl rfl ?_
  refine m_iload_n C dX8_isOutside_1 rfl rfl ?_
  refine m_callV (n := 1) (ci := 7) (st := []) C (c_X8_hasPerson l G σ (j := j) hj (a1) hI ) (by decide) hj rfl rfl rfl q3_21 q3_115 q3_19 q3_20 q1_3 (by decide +kernel) rfl (by decide) (by decide) rfl (Nat.le_of_ble_eq_true rfl) dX8_isOutside_2 ?_
  rintro _ τ1 ⟨x4, rfl, i2, f3, b5, h7⟩
  have g6 : Fr MS_X8_isOutside AS_X8_isOutside σ τ1 := Fr.call (Fr.rf) f3 (by decide)
  show MW p l e _ s m args below meth c _ 2 G 0 0 5 [some (.ref (G.1 1 j)), some (.int a1)] [.int x4] τ1
  refine m_if_eq (tgt := 22) C dX8_isOutside_5 (by decide) (fun c8 => ?_) (fun c8 => ?_)
  · have f9 : x4.toInt = 0 := by
      have q : _ := c8
      simp only [ti_nle, ti_nlt, ti_le, ti_lt, ti_eq, ti_ne, Classical.not_not, kt_0] at q
      omega
    have b10 : IV x4 0 0 := ⟨by have q1 := b5; have q2 := kc_0; omega, by have q1 := b5; have q2 := kc_0; omega⟩
    refine m_iconst (v := 0) C dX8_isOutside_22 (by decide) ?_
    exact m_zret C hr rfl hlk (by decide) (by decide) dX8_isOutside_23 ⟨_, rfl, i2, g6, (iv_wk kc_0 (by decide)), (by omega)⟩
  · have f11 : x4.toInt ≠ 0 := by
      have q : _ := c8
      simp only [ti_nle, ti_nlt, ti_le, ti_lt, ti_eq, ti_ne, Classical.not_not, kt_0] at q
      omega
    have b12 : IV x4 1 1 := ⟨by have q1 := b5; have q2 := kc_0; omega, by have q1 := b5; have q2 := kc_0; omega⟩
    have b13 : IV a1 0 6 := ⟨by have q1 := (iv_any a1); omega, by have q1 := (iv_any a1); omega⟩
    refine m_aload_n C dX8_isOutside_8 rfl rfl ?_
    refine g_1_5 C hj q1_87 dX8_isOutside_9 ?_
    refine m_iload_n C dX8_isOutside_12 rfl rfl ?_
    refine al_2 C hj b13 (by decide) rfl dX8_isOutside_13 ?_
    refine m_topi (fun x14 ex14 => ?_)
    refine m_iconst (v := (-1)) C dX8_isOutside_14 (by decide) ?_
    refine m_icmp_ne (tgt := 22) C dX8_isOutside_15 (by decide) (fun c15 => ?_) (fun c15 => ?_)
    · have f16 : x14.toInt ≠ -1 := by
        have q : _ := c15
        simp only [ti_nle, ti_nlt, ti_le, ti_lt, ti_eq, ti_ne, Classical.not_not, kt_m1] at q
        omega
      refine m_iconst (v := 0) C dX8_isOutside_22 (by decide) ?_
      exact m_zret C hr rfl hlk (by decide) (by decide) dX8_isOutside_23 ⟨_, rfl, i2, g6, (iv_wk kc_0 (by decide)), (by omega)⟩
    · have f17 : x14.toInt = -1 := by
        have q : _ := c15
        simp only [ti_nle, ti_nlt, ti_le, ti_lt, ti_eq, ti_ne, Classical.not_not, kt_m1] at q
        omega
      have b18 : IV x14 (-1) (-1) := ⟨by have q1 := (iv_any x14); have q2 := kc_m1; omega, by have q1 := (iv_any x14); have q2 := kc_m1; omega⟩
      refine m_iconst (v := 1) C dX8_isOutside_18 (by decide) ?_
      refine m_goto (tgt := 23) C dX8_isOutside_19 (by decide) ?_
      exact m_zret C hr rfl hlk (by decide) (by decide) dX8_isOutside_23 ⟨_, rfl, i2, g6, (iv_wk kc_1 (by decide)), (by omega)⟩

abbrev MS_X8_outsideSet : List (Nat × Nat) := []
abbrev AS_X8_outsideSet : List Nat := []
set_option maxHeartbeats 4000000 in
set_option maxRecDepth 100000 in
theorem c_X8_outsideSet (l : Launch) (G : Gt) (σ : Sg) {j : Nat} (hj : j < 28) (hI : Inv σ) : Mc l G yX8_outsideSet cX8_outsideSet 3 (some .int) 0 0 0 0 [.ref (G.1 1 j)] σ (PI fun r τ => Inv τ ∧ Fr MS_X8_outsideSet AS_X8_outsideSet σ τ ∧ IV r 0 127) := by
  refine Mc.of (L0 := [some (.ref (G.1 1 j)), none, none]) (by decide) (Nat.le_of_ble_eq_true rfl) rfl ?_
  intro p e s m args below meth c C hr hlk
  have C : Cx p s m args c cX8_outsideSet 3 "LeanTower$Tower" := C
  have k0 : (0 : Int32).toInt = 0 := by decide
  have k1 : (1 : Int32).toInt = 1 := by decide
  have J4 : ∀ (n : Nat) (τ : Sg) (y1 : Int32) (y2 : Int32), Inv τ → Fr MS_X8_outsideSet AS_X8_outsideSet σ τ → IV y1 0 127 → IV y2 0 7 → (7 - y2.toInt).toNat < n → MW p l e { frames := 0, cells := 0, slots := 0, locals := 0 } s m args below meth c (MQ below (QP G (PI fun r τ => Inv τ ∧ Fr MS_X8_outsideSet AS_X8_outsideSet σ τ ∧ IV r 0 127)) args s 0 0 (aG G)) 3 G 0 0 4 [some (.ref (G.1 1 j)), some (.int y1), some (.int y2)] [] τ := by
    intro n
    induction n with
    | zero => intro τ y1 y2 iτ fτ b_y1 b_y2 hm; exact absurd hm (Nat.not_lt_zero _)
    | succ n ih4 =>
      intro τ y1 y2 iτ fτ b_y1 b_y2 hm4
      refine m_iload_n C dX8_outsideSet_4 rfl rfl ?_
      refine m_aload_n C dX8_outsideSet_5 rfl rfl ?_
      refine g_1_2 C hj q1_80 dX8_outsideSet_6 ?_
      refine m_topi (fun x1 ex1 => ?_)
      have b2 : IV x1 0 7 := by rw [ex1]; exact iτ.1 1 j 2
      refine m_icmp_ge (tgt := 34) C dX8_outsideSet_9 (by decide) (fun c3 => ?_) (fun c3 => ?_)
      · have f4 : x1.toInt ≤ y2.toInt := by
          have q : _ := c3
          simp only [ti_nle, ti_nlt, ti_le, ti_lt, ti_eq, ti_ne, Classical.not_not] at q
          omega
        refine m_iload_n C dX8_outsideSet_34 rfl rfl ?_
        exact m_iret C hr hlk (by decide) (by decide) dX8_outsideSet_35 ⟨_, rfl, iτ, fτ, b_y1⟩
      · have f5 : y2.toInt < x1.toInt := by
          have q : _ := c3
          simp only [ti_nle, ti_nlt, ti_le, ti_lt, ti_eq, ti_ne, Classical.not_not] at q
          omega
        have b6 : IV y2 0 6 := ⟨by have q1 := b_y2; have q2 := b2; omega, by have q1 := b_y2; have q2 := b2; omega⟩
        have b7 : IV x1 1 7 := ⟨by have q1 := b_y2; have q2 := b2; omega, by have q1 := b_y2; have q2 := b2; omega⟩
        refine m_aload_n C dX8_outsideSet_12 rfl rfl ?_
        refine g_1_5 C hj q1_87 dX8_outsideSet_13 ?_
        refine m_iload_n C dX8_outsideSet_16 rfl rfl ?_
        refine al_2 C hj b6 (by decide) rfl dX8_outsideSet_17 ?_
        refine m_topi (fun x8 ex8 => ?_)
        refine m_iconst (v := (-1)) C dX8_outsideSet_18 (by decide) ?_
        refine m_icmp_ne (tgt := 28) C dX8_outsideSet_19 (by decide) (fun c9 => ?_) (fun c9 => ?_)
        · have f10 : x8.toInt ≠ -1 := by
            have q : _ := c9
            simp only [ti_nle, ti_nlt, ti_le, ti_lt, ti_eq, ti_ne, Classical.not_not, kt_m1] at q
            omega
          obtain ⟨x11, ex11⟩ : ∃ y : Int32, y = y2 + 1 := ⟨_, rfl⟩
          have tx11 : x11.toInt = y2.toInt + 1 := by rw [ex11, ti_addv b6 kc_1 (by decide), kt_1]
          have b12 : IV x11 1 7 := by rw [ex11]; exact iv_add b6 kc_1 (by decide)
          refine m_iinc (v := x11) (L1 := [some (.ref (G.1 1 j)), some (.int y1), some (.int x11)]) C dX8_outsideSet_28 rfl (by rw [ex11]; rfl) (by decide) rfl rfl ?_
          refine m_goto (tgt := 4) C dX8_outsideSet_31 (by decide) ?_
          exact ih4 τ y1 x11 iτ fτ b_y1 (iv_wk b12 (by decide)) (by have q := hm4; omega)
        · have f13 : x8.toInt = -1 := by
            have q : _ := c9
            simp only [ti_nle, ti_nlt, ti_le, ti_lt, ti_eq, ti_ne, Classical.not_not, kt_m1] at q
            omega
          have b14 : IV x8 (-1) (-1) := ⟨by have q1 := (iv_any x8); have q2 := kc_m1; omega, by have q1 := (iv_any x8); have q2 := kc_m1; omega⟩
          refine m_iload_n C dX8_outsideSet_22 rfl rfl ?_
          refine m_iconst (v := 1) C dX8_outsideSet_23 (by decide) ?_
          refine m_iload_n C dX8_outsideSet_24 rfl rfl ?_
          refine m_ishl C dX8_outsideSet_25 ?_
          refine m_topi (fun x15 ex15 => ?_)
          have b16 : IV x15 1 64 := by rw [ex15]; exact iv_shl1 b6 (by decide)
          refine m_ior C dX8_outsideSet_26 ?_
          refine m_topi (fun x17 ex17 => ?_)
          have b18 : IV x17 0 127 := by rw [ex17]; exact iv_or 7 b_y1 b16 (by decide)
          refine m_istore_n (L1 := [some (.ref (G.1 1 j)), some (.int x17), some (.int y2)]) C dX8_outsideSet_27 rfl (by decide) rfl rfl ?_
          obtain ⟨x19, ex19⟩ : ∃ y : Int32, y = y2 + 1 := ⟨_, rfl⟩
          have tx19 : x19.toInt = y2.toInt + 1 := by rw [ex19, ti_addv b6 kc_1 (by decide), kt_1]
          have b20 : IV x19 1 7 := by rw [ex19]; exact iv_add b6 kc_1 (by decide)
          refine m_iinc (v := x19) (L1 := [some (.ref (G.1 1 j)), some (.int x17), some (.int x19)]) C dX8_outsideSet_28 rfl (by rw [ex19]; rfl) (by decide) rfl rfl ?_
          refine m_goto (tgt := 4) C dX8_outsideSet_31 (by decide) ?_
          exact ih4 τ x17 x19 iτ fτ b18 (iv_wk b20 (by decide)) (by have q := hm4; omega)
  refine m_iconst (v := 0) C dX8_outsideSet_0 (by decide) ?_
  refine m_istore_n (L1 := [some (.ref (G.1 1 j)), some (.int 0), none]) C dX8_outsideSet_1 rfl (by decide) rfl rfl ?_
  refine m_iconst (v := 0) C dX8_outsideSet_2 (by decide) ?_
  refine m_istore_n (L1 := [some (.ref (G.1 1 j)), some (.int 0), some (.int 0)]) C dX8_outsideSet_3 rfl (by decide) rfl rfl ?_
  exact J4 ((7 - (0 : Int32).toInt).toNat + 1) σ 0 0 hI Fr.rf (iv_wk kc_0 (by decide)) (iv_wk kc_0 (by decide)) (Nat.lt_succ_self _)

abbrev MS_X8_insideSet : List (Nat × Nat) := []
abbrev AS_X8_insideSet : List Nat := []
set_option maxHeartbeats 4000000 in
set_option maxRecDepth 100000 in
theorem c_X8_insideSet (l : Launch) (G : Gt) (σ : Sg) {j : Nat} (hj : j < 28) (hI : Inv σ) : Mc l G yX8_insideSet cX8_insideSet 1 (some .int) 1 22 0 0 [.ref (G.1 1 j)] σ (PI fun r τ => Inv τ ∧ Fr MS_X8_insideSet AS_X8_insideSet σ τ ∧ IV r 0 127) := by
  refine Mc.of (L0 := [some (.ref (G.1 1 j))]) (by decide) (Nat.le_of_ble_eq_true rfl) rfl ?_
  intro p e s m args below meth c C hr hlk
  have C : Cx p s m args c cX8_insideSet 1 "LeanTower$Tower" := C
  have k0 : (0 : Int32).toInt = 0 := by decide
  have k1 : (1 : Int32).toInt = 1 := by decide
  refine m_iconst (v := 1) C dX8_insideSet_0 (by decide) ?_
  refine m_aload_n C dX8_insideSet_1 rfl rfl ?_
  refine g_1_2 C hj q1_80 dX8_insideSet_2 ?_
  refine m_topi (fun x1 ex1 => ?_)
  have b2 : IV x1 0 7 := by rw [ex1]; exact hI.1 1 j 2
  refine m_ishl C dX8_insideSet_5 ?_
  refine m_topi (fun x3 ex3 => ?_)
  have b4 : IV x3 1 128 := by rw [ex3]; exact iv_shl1 b2 (by decide)
  refine m_iconst (v := 1) C dX8_insideSet_6 (by decide) ?_
  refine m_isub C dX8_insideSet_7 ?_
  refine m_topi (fun x5 ex5 => ?_)
  have tx5 : x5.toInt = x3.toInt - 1 := by rw [ex5, ti_subv b4 kc_1 (by decide), kt_1]
  have b6 : IV x5 0 127 := by rw [ex5]; exact iv_sub b4 kc_1 (by decide)
  refine m_aload_n C dX8_insideSet_8 rfl rfl ?_
  refine m_callV (n := 0) (ci := 7) (st := [.int x5]) C (c_X8_outsideSet l G σ (j := j) hj  hI ) (by decide) hj rfl rfl rfl q3_143 q3_207 q3_141 q3_142 q1_3 (by decide +kernel) rfl (by decide) (by decide) rfl (Nat.le_of_ble_eq_true rfl) dX8_insideSet_9 ?_
  rintro _ τ7 ⟨x10, rfl, i8, f9, b11⟩
  have g12 : Fr MS_X8_insideSet AS_X8_insideSet σ τ7 := Fr.call (Fr.rf) f9 (by decide)
  show MW p l e _ s m args below meth c _ 1 G 0 0 12 [some (.ref (G.1 1 j))] [.int x10, .int x5] τ7
  refine m_iconst (v := (-1)) C dX8_insideSet_12 (by decide) ?_
  refine m_ixor C dX8_insideSet_13 ?_
  refine m_topi (fun x14 ex14 => ?_)
  refine m_iand C dX8_insideSet_14 ?_
  refine m_topi (fun x15 ex15 => ?_)
  have b16 : IV x15 0 127 := by rw [ex15]; exact iv_and_l b6 (by decide)
  exact m_iret C hr hlk (by decide) (by decide) dX8_insideSet_15 ⟨_, rfl, i8, g12, b16⟩

abbrev MS_X8_sideOf : List (Nat × Nat) := []
abbrev AS_X8_sideOf : List Nat := []
set_option maxHeartbeats 4000000 in
set_option maxRecDepth 100000 in
theorem c_X8_sideOf (l : Launch) (G : Gt) (σ : Sg) {j : Nat} (hj : j < 28) (a1 : Int32) (hI : Inv σ) (ha1 : IV a1 0 6) : Mc l G yX8_sideOf cX8_sideOf 3 (some .int) 0 0 0 0 [.ref (G.1 1 j), .int a1] σ (PI fun r τ => Inv τ ∧ Fr MS_X8_sideOf AS_X8_sideOf σ τ ∧ IV r (-2147483648) 2147483647) := by
  refine Mc.of (L0 := [some (.ref (G.1 1 j)), some (.int a1), none]) (by decide) (Nat.le_of_ble_eq_true rfl) rfl ?_
  intro p e s m args below meth c C hr hlk
  have C : Cx p s m args c cX8_sideOf 3 "LeanTower$Tower" := C
  have k0 : (0 : Int32).toInt = 0 := by decide
  have k1 : (1 : Int32).toInt = 1 := by decide
  have J29 : ∀ (τ : Sg) (z0 : Int32), Inv τ → Fr MS_X8_sideOf AS_X8_sideOf σ τ → IV a1 0 6 → IV z0 0 1 → MW p l e { frames := 0, cells := 0, slots := 0, locals := 0 } s m args below meth c (MQ below (QP G (PI fun r τ => Inv τ ∧ Fr MS_X8_sideOf AS_X8_sideOf σ τ ∧ IV r (-2147483648) 2147483647)) args s 0 0 (aG G)) 3 G 0 0 29 [some (.ref (G.1 1 j)), some (.int a1), none] [.int z0] τ := by
    intro τ z0 iτ fτ b_a1 b_z0
    refine m_istore_n (L1 := [some (.ref (G.1 1 j)), some (.int a1), some (.int z0)]) C dX8_sideOf_29 rfl (by decide) rfl rfl ?_
    refine m_iload_n C dX8_sideOf_30 rfl rfl ?_
    refine m_if_eq (tgt := 45) C dX8_sideOf_31 (by decide) (fun c1 => ?_) (fun c1 => ?_)
    · have f2 : z0.toInt = 0 := by
        have q : _ := c1
        simp only [ti_nle, ti_nlt, ti_le, ti_lt, ti_eq, ti_ne, Classical.not_not, kt_0] at q
        omega
      have b3 : IV z0 0 0 := ⟨by have q1 := b_z0; have q2 := kc_0; omega, by have q1 := b_z0; have q2 := kc_0; omega⟩
      refine m_ldc (v := (-1000000)) C dX8_sideOf_45 q3_90 ?_
      exact m_iret C hr hlk (by decide) (by decide) dX8_sideOf_47 ⟨_, rfl, iτ, fτ, (iv_wk kc_m1000000 (by decide))⟩
    · have f4 : z0.toInt ≠ 0 := by
        have q : _ := c1
        simp only [ti_nle, ti_nlt, ti_le, ti_lt, ti_eq, ti_ne, Classical.not_not, kt_0] at q
        omega
      have b5 : IV z0 1 1 := ⟨by have q1 := b_z0; have q2 := kc_0; omega, by have q1 := b_z0; have q2 := kc_0; omega⟩
      refine m_aload_n C dX8_sideOf_34 rfl rfl ?_
      refine g_1_5 C hj q1_87 dX8_sideOf_35 ?_
      refine m_iload_n C dX8_sideOf_38 rfl rfl ?_
      refine al_2 C hj b_a1 (by decide) rfl dX8_sideOf_39 ?_
      refine m_topi (fun x6 ex6 => ?_)
      refine m_iconst (v := 4) C dX8_sideOf_40 (by decide) ?_
      refine m_irem C dX8_sideOf_41 (iv_nz kc_4 (by decide)) ?_
      refine m_topi (fun x7 ex7 => ?_)
      refine m_goto (tgt := 47) C dX8_sideOf_42 (by decide) ?_
      exact m_iret C hr hlk (by decide) (by decide) dX8_sideOf_47 ⟨_, rfl, iτ, fτ, (iv_any x7)⟩
  refine m_aload_n C dX8_sideOf_0 rfl rfl ?_
  refine g_1_5 C hj q1_87 dX8_sideOf_1 ?_
  refine m_iload_n C dX8_sideOf_4 rfl rfl ?_
  refine al_2 C hj ha1 (by decide) rfl dX8_sideOf_5 ?_
  refine m_topi (fun x8 ex8 => ?_)
  refine m_if_lt (tgt := 28) C dX8_sideOf_6 (by decide) (fun c9 => ?_) (fun c9 => ?_)
  · have f10 : x8.toInt < 0 := by
      have q : _ := c9
      simp only [ti_nle, ti_nlt, ti_le, ti_lt, ti_eq, ti_ne, Classical.not_not, kt_0] at q
      omega
    have b11 : IV x8 (-2147483648) (-1) := ⟨by have q1 := (iv_any x8); have q2 := kc_0; omega, by have q1 := (iv_any x8); have q2 := kc_0; omega⟩
    refine m_iconst (v := 0) C dX8_sideOf_28 (by decide) ?_
    exact J29 σ 0 hI Fr.rf ha1 (iv_wk kc_0 (by decide))
  · have f12 : 0 ≤ x8.toInt := by
      have q : _ := c9
      simp only [ti_nle, ti_nlt, ti_le, ti_lt, ti_eq, ti_ne, Classical.not_not, kt_0] at q
      omega
    have b13 : IV x8 0 2147483647 := ⟨by have q1 := kc_0; have q2 := (iv_any x8); omega, by have q1 := kc_0; have q2 := (iv_any x8); omega⟩
    refine m_aload_n C dX8_sideOf_9 rfl rfl ?_
    refine g_1_5 C hj q1_87 dX8_sideOf_10 ?_
    refine m_iload_n C dX8_sideOf_13 rfl rfl ?_
    refine al_2 C hj ha1 (by decide) rfl dX8_sideOf_14 ?_
    refine m_eqs (w := x8) ex8.symm ?_
    refine m_aload_n C dX8_sideOf_15 rfl rfl ?_
    refine g_1_0 C hj q1_74 dX8_sideOf_16 ?_
    refine m_topi (fun x14 ex14 => ?_)
    refine m_iconst (v := 1) C dX8_sideOf_19 (by decide) ?_
    refine m_isub C dX8_sideOf_20 ?_
    refine m_topi (fun x15 ex15 => ?_)
    refine m_icmp_ge (tgt := 28) C dX8_sideOf_21 (by decide) (fun c16 => ?_) (fun c16 => ?_)
    · have f17 : x15.toInt ≤ x8.toInt := by
        have q : _ := c16
        simp only [ti_nle, ti_nlt, ti_le, ti_lt, ti_eq, ti_ne, Classical.not_not] at q
        omega
      refine m_iconst (v := 0) C dX8_sideOf_28 (by decide) ?_
      exact J29 σ 0 hI Fr.rf ha1 (iv_wk kc_0 (by decide))
    · have f18 : x8.toInt < x15.toInt := by
        have q : _ := c16
        simp only [ti_nle, ti_nlt, ti_le, ti_lt, ti_eq, ti_ne, Classical.not_not] at q
        omega
      have b19 : IV x8 0 2147483646 := ⟨by have q1 := b13; have q2 := (iv_any x15); omega, by have q1 := b13; have q2 := (iv_any x15); omega⟩
      have b20 : IV x15 1 2147483647 := ⟨by have q1 := b13; have q2 := (iv_any x15); omega, by have q1 := b13; have q2 := (iv_any x15); omega⟩
      refine m_iconst (v := 1) C dX8_sideOf_24 (by decide) ?_
      refine m_goto (tgt := 29) C dX8_sideOf_25 (by decide) ?_
      exact J29 σ 1 hI Fr.rf ha1 (iv_wk kc_1 (by decide))

abbrev MS_X8_pull : List (Nat × Nat) := []
abbrev AS_X8_pull : List Nat := []
set_option maxHeartbeats 4000000 in
set_option maxRecDepth 100000 in
theorem c_X8_pull (l : Launch) (G : Gt) (σ : Sg) (a1 : Int32) (a2 : Int32) (a3 : Int32) (hI : Inv σ) : Mc l G yX8_pull cX8_pull 3 (some .int) 0 0 0 0 [.int a1, .int a2, .int a3] σ (PI fun r τ => Inv τ ∧ Fr MS_X8_pull AS_X8_pull σ τ ∧ IV r (-2147483648) 2147483647) := by
  refine Mc.of (L0 := [some (.int a1), some (.int a2), some (.int a3)]) (by decide) (Nat.le_of_ble_eq_true rfl) rfl ?_
  intro p e s m args below meth c C hr hlk
  have C : Cx p s m args c cX8_pull 3 "LeanTower$Tower" := C
  have k0 : (0 : Int32).toInt = 0 := by decide
  have k1 : (1 : Int32).toInt = 1 := by decide
  refine m_iload_n C dX8_pull_0 rfl rfl ?_
  refine m_iload_n C dX8_pull_1 rfl rfl ?_
  refine m_icmp_ne (tgt := 7) C dX8_pull_2 (by decide) (fun c1 => ?_) (fun c1 => ?_)
  · have f2 : a2.toInt ≠ a3.toInt := by
      have q : _ := c1
      simp only [ti_nle, ti_nlt, ti_le, ti_lt, ti_eq, ti_ne, Classical.not_not] at q
      omega
    refine m_iload_n C dX8_pull_7 rfl rfl ?_
    refine m_iload_n C dX8_pull_8 rfl rfl ?_
    refine m_iconst (v := 2) C dX8_pull_9 (by decide) ?_
    refine m_ixor C dX8_pull_10 ?_
    refine m_topi (fun x3 ex3 => ?_)
    refine m_icmp_ne (tgt := 19) C dX8_pull_11 (by decide) (fun c4 => ?_) (fun c4 => ?_)
    · have f5 : a2.toInt ≠ x3.toInt := by
        have q : _ := c4
        simp only [ti_nle, ti_nlt, ti_le, ti_lt, ti_eq, ti_ne, Classical.not_not] at q
        omega
      refine m_iconst (v := 0) C dX8_pull_19 (by decide) ?_
      exact m_iret C hr hlk (by decide) (by decide) dX8_pull_20 ⟨_, rfl, hI, Fr.rf, (iv_wk kc_0 (by decide))⟩
    · have f6 : a2.toInt = x3.toInt := by
        have q : _ := c4
        simp only [ti_nle, ti_nlt, ti_le, ti_lt, ti_eq, ti_ne, Classical.not_not] at q
        omega
      refine m_iload_n C dX8_pull_14 rfl rfl ?_
      refine m_ineg C dX8_pull_15 ?_
      refine m_topi (fun x7 ex7 => ?_)
      refine m_goto (tgt := 20) C dX8_pull_16 (by decide) ?_
      exact m_iret C hr hlk (by decide) (by decide) dX8_pull_20 ⟨_, rfl, hI, Fr.rf, (iv_any x7)⟩
  · have f8 : a2.toInt = a3.toInt := by
      have q : _ := c1
      simp only [ti_nle, ti_nlt, ti_le, ti_lt, ti_eq, ti_ne, Classical.not_not] at q
      omega
    refine m_iload_n C dX8_pull_5 rfl rfl ?_
    exact m_iret C hr hlk (by decide) (by decide) dX8_pull_6 ⟨_, rfl, hI, Fr.rf, (iv_any a1)⟩

abbrev MS_X8_move : List (Nat × Nat) := []
abbrev AS_X8_move : List Nat := [2, 3]
set_option maxHeartbeats 4000000 in
set_option maxRecDepth 100000 in
theorem c_X8_move (l : Launch) (G : Gt) (σ : Sg) {j : Nat} (hj : j < 28) (a1 : Int32) (a2 : Int32) (hI : Inv σ) (ha1 : IV a1 0 6) : Mc l G yX8_move cX8_move 5 none 1 40 0 0 [.ref (G.1 1 j), .int a1, .int a2] σ (PV fun τ => Inv τ ∧ Fr MS_X8_move AS_X8_move σ τ) := by
  refine Mc.of (L0 := [some (.ref (G.1 1 j)), some (.int a1), some (.int a2), none, none]) (by decide) (Nat.le_of_ble_eq_true rfl) rfl ?_
  intro p e s m args below meth c C hr hlk
  have C : Cx p s m args c cX8_move 5 "LeanTower$Tower" := C
  have k0 : (0 : Int32).toInt = 0 := by decide
  have k1 : (1 : Int32).toInt = 1 := by decide
  have J30 : ∀ (τ : Sg) (z0 : Int32), Inv τ → Fr MS_X8_move AS_X8_move σ τ → IV a1 0 6 → IV a2 (-2147483648) 2147483647 → IV z0 (-2147483648) 2147483647 → MW p l e { frames := 1, cells := 0, slots := 0, locals := 40 } s m args below meth c (MQ below (QP G (PV fun τ => Inv τ ∧ Fr MS_X8_move AS_X8_move σ τ)) args s 0 0 (aG G)) 5 G 0 0 30 [some (.ref (G.1 1 j)), some (.int a1), some (.int a2), none, none] [.int z0] τ := by
    intro τ z0 iτ fτ b_a1 b_a2 b_z0
    refine m_istore_n (L1 := [some (.ref (G.1 1 j)), some (.int a1), some (.int a2), some (.int z0), none]) C dX8_move_30 rfl (by decide) rfl rfl ?_
    refine m_iload_n C dX8_move_31 rfl rfl ?_
    refine m_aload_n C dX8_move_32 rfl rfl ?_
    refine g_1_5 C hj q1_87 dX8_move_33 ?_
    refine m_iload_n C dX8_move_36 rfl rfl ?_
    refine al_2 C hj b_a1 (by decide) rfl dX8_move_37 ?_
    refine m_topi (fun x1 ex1 => ?_)
    refine m_isub C dX8_move_38 ?_
    refine m_topi (fun x2 ex2 => ?_)
    refine m_abs (st := []) C q3_65 q3_66 q1_19 q3_67 ⟨by decide, Nat.le_of_ble_eq_true rfl⟩ (by decide) dX8_move_39 (fun x3 ex3 => ?_)
    refine m_istore (L1 := [some (.ref (G.1 1 j)), some (.int a1), some (.int a2), some (.int z0), some (.int x3)]) C dX8_move_42 (by decide) rfl rfl ?_
    refine m_aload_n C dX8_move_44 rfl rfl ?_
    refine g_1_5 C hj q1_87 dX8_move_45 ?_
    refine m_iload_n C dX8_move_48 rfl rfl ?_
    refine m_dup2 C dX8_move_49 rfl rfl ?_
    refine al_2 C hj b_a1 (by decide) rfl dX8_move_50 ?_
    refine m_eqs (w := x1) ex1.symm ?_
    refine m_aload_n C dX8_move_51 rfl rfl ?_
    refine g_1_6 C hj q1_89 dX8_move_52 ?_
    refine m_iload_n C dX8_move_55 rfl rfl ?_
    refine al_3 C hj b_a1 (by decide) rfl dX8_move_56 ?_
    refine m_topi (fun x4 ex4 => ?_)
    refine m_iload_n C dX8_move_57 rfl rfl ?_
    refine m_iload C dX8_move_58 rfl ?_
    refine m_min (st := [.int x4, .int x1, .int a1, .ref (G.1 2 j)]) C q3_68 q3_69 q1_19 q3_70 ⟨by decide, Nat.le_of_ble_eq_true rfl⟩ (by decide) dX8_move_60 (fun x5 ex5 => ?_)
    have tx5 : x5.toInt = min (a2.toInt) (x3.toInt) := by rw [ti_min ex5]
    refine m_imul C dX8_move_63 ?_
    refine m_topi (fun x6 ex6 => ?_)
    refine m_iadd C dX8_move_64 ?_
    refine m_topi (fun x7 ex7 => ?_)
    refine as_2 C hj b_a1 (by decide) rfl dX8_move_65 ?_
    refine m_tops (fun τ8 eτ8 => ?_)
    have i9 : Inv τ8 := eτ8 ▸ Inv.putF iτ (by decide) rfl
    have f10 : Fr MS_X8_move AS_X8_move σ τ8 := eτ8 ▸ Fr.put (fτ) (Or.inr (by decide))
    refine m_aload_n C dX8_move_66 rfl rfl ?_
    refine g_1_5 C hj q1_87 dX8_move_67 ?_
    refine m_iload_n C dX8_move_70 rfl rfl ?_
    refine al_2 C hj b_a1 (by decide) rfl dX8_move_71 ?_
    refine m_eqs (w := x7) (show gV τ8 2 j (a1.toInt.toNat) = x7 from gV_put eτ8 (gV_self _ _ _ _ _)) ?_
    refine m_iload_n C dX8_move_72 rfl rfl ?_
    refine m_icmp_ne (tgt := 83) C dX8_move_73 (by decide) (fun c11 => ?_) (fun c11 => ?_)
    · have f12 : x7.toInt ≠ z0.toInt := by
        have q : _ := c11
        simp only [ti_nle, ti_nlt, ti_le, ti_lt, ti_eq, ti_ne, Classical.not_not] at q
        omega
      exact m_vret C hr hlk (by decide) (by decide) dX8_move_83 ⟨rfl, i9, f10⟩
    · have f13 : x7.toInt = z0.toInt := by
        have q : _ := c11
        simp only [ti_nle, ti_nlt, ti_le, ti_lt, ti_eq, ti_ne, Classical.not_not] at q
        omega
      refine m_aload_n C dX8_move_76 rfl rfl ?_
      refine g_1_6 C hj q1_89 dX8_move_77 ?_
      refine m_iload_n C dX8_move_80 rfl rfl ?_
      refine m_iconst (v := 0) C dX8_move_81 (by decide) ?_
      refine as_3 C hj b_a1 (by decide) rfl dX8_move_82 ?_
      refine m_tops (fun τ14 eτ14 => ?_)
      have i15 : Inv τ14 := eτ14 ▸ Inv.putF i9 (by decide) rfl
      have f16 : Fr MS_X8_move AS_X8_move σ τ14 := eτ14 ▸ Fr.put (f10) (Or.inr (by decide))
      exact m_vret C hr hlk (by decide) (by decide) dX8_move_83 ⟨rfl, i15, f16⟩
  refine m_aload_n C dX8_move_0 rfl rfl ?_
  refine g_1_6 C hj q1_89 dX8_move_1 ?_
  refine m_iload_n C dX8_move_4 rfl rfl ?_
  refine al_3 C hj ha1 (by decide) rfl dX8_move_5 ?_
  refine m_topi (fun x17 ex17 => ?_)
  refine m_if_ne (tgt := 10) C dX8_move_6 (by decide) (fun c18 => ?_) (fun c18 => ?_)
  · have f19 : x17.toInt ≠ 0 := by
      have q : _ := c18
      simp only [ti_nle, ti_nlt, ti_le, ti_lt, ti_eq, ti_ne, Classical.not_not, kt_0] at q
      omega
    refine m_aload_n C dX8_move_10 rfl rfl ?_
    refine g_1_6 C hj q1_89 dX8_move_11 ?_
    refine m_iload_n C dX8_move_14 rfl rfl ?_
    refine al_3 C hj ha1 (by decide) rfl dX8_move_15 ?_
    refine m_eqs (w := x17) ex17.symm ?_
    refine m_iconst (v := 1) C dX8_move_16 (by decide) ?_
    refine m_icmp_ne (tgt := 29) C dX8_move_17 (by decide) (fun c20 => ?_) (fun c20 => ?_)
    · have f21 : x17.toInt ≠ 1 := by
        have q : _ := c20
        simp only [ti_nle, ti_nlt, ti_le, ti_lt, ti_eq, ti_ne, Classical.not_not, kt_1] at q
        omega
      refine m_iconst (v := (-1)) C dX8_move_29 (by decide) ?_
      exact J30 σ (-1) hI Fr.rf ha1 (iv_any a2) (iv_wk kc_m1 (by decide))
    · have f22 : x17.toInt = 1 := by
        have q : _ := c20
        simp only [ti_nle, ti_nlt, ti_le, ti_lt, ti_eq, ti_ne, Classical.not_not, kt_1] at q
        omega
      have b23 : IV x17 1 1 := ⟨by have q1 := (iv_any x17); have q2 := kc_1; omega, by have q1 := (iv_any x17); have q2 := kc_1; omega⟩
      refine m_aload_n C dX8_move_20 rfl rfl ?_
      refine g_1_0 C hj q1_74 dX8_move_21 ?_
      refine m_topi (fun x24 ex24 => ?_)
      refine m_iconst (v := 1) C dX8_move_24 (by decide) ?_
      refine m_isub C dX8_move_25 ?_
      refine m_topi (fun x25 ex25 => ?_)
      refine m_goto (tgt := 30) C dX8_move_26 (by decide) ?_
      exact J30 σ x25 hI Fr.rf ha1 (iv_any a2) (iv_any x25)
  · have f26 : x17.toInt = 0 := by
      have q : _ := c18
      simp only [ti_nle, ti_nlt, ti_le, ti_lt, ti_eq, ti_ne, Classical.not_not, kt_0] at q
      omega
    have b27 : IV x17 0 0 := ⟨by have q1 := (iv_any x17); have q2 := kc_0; omega, by have q1 := (iv_any x17); have q2 := kc_0; omega⟩
    exact m_vret C hr hlk (by decide) (by decide) dX8_move_9 ⟨rfl, hI, Fr.rf⟩

abbrev MS_X8_takeFrom : List (Nat × Nat) := [(1, 0), (1, 1), (1, 2), (1, 3), (1, 9), (1, 10), (1, 11)]
abbrev AS_X8_takeFrom : List Nat := [2, 3, 4, 5, 6]
set_option maxHeartbeats 4000000 in
set_option maxRecDepth 100000 in
theorem c_X8_takeFrom (l : Launch) (G : Gt) (σ : Sg) {j : Nat} (hj : j < 28) {j2 : Nat} (hj2 : j2 < 28) (hI : Inv σ) : Mc l G yX8_takeFrom cX8_takeFrom 3 none 0 0 0 0 [.ref (G.1 1 j), .ref (G.1 1 j2)] σ (PV fun τ => Inv τ ∧ Fr MS_X8_takeFrom AS_X8_takeFrom σ τ) := by
  refine Mc.of (L0 := [some (.ref (G.1 1 j)), some (.ref (G.1 1 j2)), none]) (by decide) (Nat.le_of_ble_eq_true rfl) rfl ?_
  intro p e s m args below meth c C hr hlk
  have C : Cx p s m args c cX8_takeFrom 3 "LeanTower$Tower" := C
  have k0 : (0 : Int32).toInt = 0 := by decide
  have k1 : (1 : Int32).toInt = 1 := by decide
  have J108 : ∀ (n : Nat) (τ : Sg) (y2 : Int32), Inv τ → Fr MS_X8_takeFrom AS_X8_takeFrom σ τ → IV y2 0 4 → (4 - y2.toInt).toNat < n → MW p l e { frames := 0, cells := 0, slots := 0, locals := 0 } s m args below meth c (MQ below (QP G (PV fun τ => Inv τ ∧ Fr MS_X8_takeFrom AS_X8_takeFrom σ τ)) args s 0 0 (aG G)) 3 G 0 0 108 [some (.ref (G.1 1 j)), some (.ref (G.1 1 j2)), some (.int y2)] [] τ := by
    intro n
    induction n with
    | zero => intro τ y2 iτ fτ b_y2 hm; exact absurd hm (Nat.not_lt_zero _)
    | succ n ih108 =>
      intro τ y2 iτ fτ b_y2 hm108
      refine m_iload_n C dX8_takeFrom_108 rfl rfl ?_
      refine m_iconst (v := 4) C dX8_takeFrom_109 (by decide) ?_
      refine m_icmp_ge (tgt := 143) C dX8_takeFrom_110 (by decide) (fun c1 => ?_) (fun c1 => ?_)
      · have f2 : 4 ≤ y2.toInt := by
          have q : _ := c1
          simp only [ti_nle, ti_nlt, ti_le, ti_lt, ti_eq, ti_ne, Classical.not_not, kt_4] at q
          omega
        have b3 : IV y2 4 4 := ⟨by have q1 := kc_4; have q2 := b_y2; omega, by have q1 := kc_4; have q2 := b_y2; omega⟩
        exact m_vret C hr hlk (by decide) (by decide) dX8_takeFrom_143 ⟨rfl, iτ, fτ⟩
      · have f4 : y2.toInt < 4 := by
          have q : _ := c1
          simp only [ti_nle, ti_nlt, ti_le, ti_lt, ti_eq, ti_ne, Classical.not_not, kt_4] at q
          omega
        have b5 : IV y2 0 3 := ⟨by have q1 := b_y2; have q2 := kc_4; omega, by have q1 := b_y2; have q2 := kc_4; omega⟩
        refine m_aload_n C dX8_takeFrom_113 rfl rfl ?_
        refine g_1_7 C hj q1_91 dX8_takeFrom_114 ?_
        refine m_iload_n C dX8_takeFrom_117 rfl rfl ?_
        refine m_aload_n C dX8_takeFrom_118 rfl rfl ?_
        refine g_1_7 C hj2 q1_91 dX8_takeFrom_119 ?_
        refine m_iload_n C dX8_takeFrom_122 rfl rfl ?_
        refine al_4 C hj2 b5 (by decide) rfl dX8_takeFrom_123 ?_
        refine m_topi (fun x6 ex6 => ?_)
        refine as_4 C hj b5 (by decide) rfl dX8_takeFrom_124 ?_
        refine m_tops (fun τ7 eτ7 => ?_)
        have i8 : Inv τ7 := eτ7 ▸ Inv.putF iτ (by decide) rfl
        have f9 : Fr MS_X8_takeFrom AS_X8_takeFrom σ τ7 := eτ7 ▸ Fr.put (fτ) (Or.inr (by decide))
        refine m_aload_n C dX8_takeFrom_125 rfl rfl ?_
        refine g_1_8 C hj q1_93 dX8_takeFrom_126 ?_
        refine m_iload_n C dX8_takeFrom_129 rfl rfl ?_
        refine m_aload_n C dX8_takeFrom_130 rfl rfl ?_
        refine g_1_8 C hj2 q1_93 dX8_takeFrom_131 ?_
        refine m_iload_n C dX8_takeFrom_134 rfl rfl ?_
        refine al_5 C hj2 b5 (by decide) rfl dX8_takeFrom_135 ?_
        refine m_topi (fun x10 ex10 => ?_)
        refine as_5 C hj b5 (by decide) rfl dX8_takeFrom_136 ?_
        refine m_tops (fun τ11 eτ11 => ?_)
        have i12 : Inv τ11 := eτ11 ▸ Inv.putF i8 (by decide) rfl
        have f13 : Fr MS_X8_takeFrom AS_X8_takeFrom σ τ11 := eτ11 ▸ Fr.put (f9) (Or.inr (by decide))
        obtain ⟨x14, ex14⟩ : ∃ y : Int32, y = y2 + 1 := ⟨_, rfl⟩
        have tx14 : x14.toInt = y2.toInt + 1 := by rw [ex14, ti_addv b5 kc_1 (by decide), kt_1]
        have b15 : IV x14 1 4 := by rw [ex14]; exact iv_add b5 kc_1 (by decide)
        refine m_iinc (v := x14) (L1 := [some (.ref (G.1 1 j)), some (.ref (G.1 1 j2)), some (.int x14)]) C dX8_takeFrom_137 rfl (by rw [ex14]; rfl) (by decide) rfl rfl ?_
        refine m_goto (tgt := 108) C dX8_takeFrom_140 (by decide) ?_
        exact ih108 τ11 x14 i12 f13 (iv_wk b15 (by decide)) (by have q := hm108; omega)
  have J58 : ∀ (n : Nat) (τ : Sg) (y2 : Int32), Inv τ → Fr MS_X8_takeFrom AS_X8_takeFrom σ τ → IV y2 0 7 → (7 - y2.toInt).toNat < n → MW p l e { frames := 0, cells := 0, slots := 0, locals := 0 } s m args below meth c (MQ below (QP G (PV fun τ => Inv τ ∧ Fr MS_X8_takeFrom AS_X8_takeFrom σ τ)) args s 0 0 (aG G)) 3 G 0 0 58 [some (.ref (G.1 1 j)), some (.ref (G.1 1 j2)), some (.int y2)] [] τ := by
    intro n
    induction n with
    | zero => intro τ y2 iτ fτ b_y2 hm; exact absurd hm (Nat.not_lt_zero _)
    | succ n ih58 =>
      intro τ y2 iτ fτ b_y2 hm58
      refine m_iload_n C dX8_takeFrom_58 rfl rfl ?_
      refine m_bipush (v := 7) C dX8_takeFrom_59 (by decide) ?_
      refine m_icmp_ge (tgt := 106) C dX8_takeFrom_61 (by decide) (fun c16 => ?_) (fun c16 => ?_)
      · have f17 : 7 ≤ y2.toInt := by
          have q : _ := c16
          simp only [ti_nle, ti_nlt, ti_le, ti_lt, ti_eq, ti_ne, Classical.not_not, kt_7] at q
          omega
        have b18 : IV y2 7 7 := ⟨by have q1 := kc_7; have q2 := b_y2; omega, by have q1 := kc_7; have q2 := b_y2; omega⟩
        refine m_iconst (v := 0) C dX8_takeFrom_106 (by decide) ?_
        refine m_istore_n (L1 := [some (.ref (G.1 1 j)), some (.ref (G.1 1 j2)), some (.int 0)]) C dX8_takeFrom_107 rfl (by decide) rfl rfl ?_
        exact J108 ((4 - (0 : Int32).toInt).toNat + 1) τ 0 iτ fτ (iv_wk kc_0 (by decide)) (Nat.lt_succ_self _)
      · have f19 : y2.toInt < 7 := by
          have q : _ := c16
          simp only [ti_nle, ti_nlt, ti_le, ti_lt, ti_eq, ti_ne, Classical.not_not, kt_7] at q
          omega
        have b20 : IV y2 0 6 := ⟨by have q1 := b_y2; have q2 := kc_7; omega, by have q1 := b_y2; have q2 := kc_7; omega⟩
        refine m_aload_n C dX8_takeFrom_64 rfl rfl ?_
        refine g_1_4 C hj q1_86 dX8_takeFrom_65 ?_
        refine m_iload_n C dX8_takeFrom_68 rfl rfl ?_
        refine m_aload_n C dX8_takeFrom_69 rfl rfl ?_
        refine g_1_4 C hj2 q1_86 dX8_takeFrom_70 ?_
        refine m_iload_n C dX8_takeFrom_73 rfl rfl ?_
        refine al_6 (n := (y2.toInt.toNat)) C hj2 b20 (by decide) rfl dX8_takeFrom_74 (fun h22 => ?_) (fun x21 h22 => ?_)
        · skip
          refine as_6N C hj b20 (by decide) dX8_takeFrom_75 ?_
          refine m_tops (fun τ23 eτ23 => ?_)
          have i24 : Inv τ23 := eτ23 ▸ Inv.putQ iτ (fun _ h => nomatch h)
          have f25 : Fr MS_X8_takeFrom AS_X8_takeFrom σ τ23 := eτ23 ▸ Fr.putQ (fτ) (by decide)
          refine m_aload_n C dX8_takeFrom_76 rfl rfl ?_
          refine g_1_5 C hj q1_87 dX8_takeFrom_77 ?_
          refine m_iload_n C dX8_takeFrom_80 rfl rfl ?_
          refine m_aload_n C dX8_takeFrom_81 rfl rfl ?_
          refine g_1_5 C hj2 q1_87 dX8_takeFrom_82 ?_
          refine m_iload_n C dX8_takeFrom_85 rfl rfl ?_
          refine al_2 C hj2 b20 (by decide) rfl dX8_takeFrom_86 ?_
          refine m_topi (fun x26 ex26 => ?_)
          refine as_2 C hj b20 (by decide) rfl dX8_takeFrom_87 ?_
          refine m_tops (fun τ27 eτ27 => ?_)
          have i28 : Inv τ27 := eτ27 ▸ Inv.putF i24 (by decide) rfl
          have f29 : Fr MS_X8_takeFrom AS_X8_takeFrom σ τ27 := eτ27 ▸ Fr.put (f25) (Or.inr (by decide))
          refine m_aload_n C dX8_takeFrom_88 rfl rfl ?_
          refine g_1_6 C hj q1_89 dX8_takeFrom_89 ?_
          refine m_iload_n C dX8_takeFrom_92 rfl rfl ?_
          refine m_aload_n C dX8_takeFrom_93 rfl rfl ?_
          refine g_1_6 C hj2 q1_89 dX8_takeFrom_94 ?_
          refine m_iload_n C dX8_takeFrom_97 rfl rfl ?_
          refine al_3 C hj2 b20 (by decide) rfl dX8_takeFrom_98 ?_
          refine m_topi (fun x30 ex30 => ?_)
          refine as_3 C hj b20 (by decide) rfl dX8_takeFrom_99 ?_
          refine m_tops (fun τ31 eτ31 => ?_)
          have i32 : Inv τ31 := eτ31 ▸ Inv.putF i28 (by decide) rfl
          have f33 : Fr MS_X8_takeFrom AS_X8_takeFrom σ τ31 := eτ31 ▸ Fr.put (f29) (Or.inr (by decide))
          obtain ⟨x34, ex34⟩ : ∃ y : Int32, y = y2 + 1 := ⟨_, rfl⟩
          have tx34 : x34.toInt = y2.toInt + 1 := by rw [ex34, ti_addv b20 kc_1 (by decide), kt_1]
          have b35 : IV x34 1 7 := by rw [ex34]; exact iv_add b20 kc_1 (by decide)
          refine m_iinc (v := x34) (L1 := [some (.ref (G.1 1 j)), some (.ref (G.1 1 j2)), some (.int x34)]) C dX8_takeFrom_100 rfl (by rw [ex34]; rfl) (by decide) rfl rfl ?_
          refine m_goto (tgt := 58) C dX8_takeFrom_103 (by decide) ?_
          exact ih58 τ31 x34 i32 f33 (iv_wk b35 (by decide)) (by have q := hm58; omega)
        · have v36 : x21 ∈ τ.2.2.2.1 := iτ.2.2.1 _ _ _ h22
          refine as_6 C hj iτ.2.2 v36 b20 (by decide) dX8_takeFrom_75 ?_
          refine m_tops (fun τ37 eτ37 => ?_)
          have i38 : Inv τ37 := eτ37 ▸ Inv.putQ iτ (fun _ h => by cases h; exact v36)
          have f39 : Fr MS_X8_takeFrom AS_X8_takeFrom σ τ37 := eτ37 ▸ Fr.putQ (fτ) (by decide)
          have v40 : x21 ∈ τ37.2.2.2.1 := by rw [eτ37]; exact v36
          refine m_aload_n C dX8_takeFrom_76 rfl rfl ?_
          refine g_1_5 C hj q1_87 dX8_takeFrom_77 ?_
          refine m_iload_n C dX8_takeFrom_80 rfl rfl ?_
          refine m_aload_n C dX8_takeFrom_81 rfl rfl ?_
          refine g_1_5 C hj2 q1_87 dX8_takeFrom_82 ?_
          refine m_iload_n C dX8_takeFrom_85 rfl rfl ?_
          refine al_2 C hj2 b20 (by decide) rfl dX8_takeFrom_86 ?_
          refine m_topi (fun x41 ex41 => ?_)
          refine as_2 C hj b20 (by decide) rfl dX8_takeFrom_87 ?_
          refine m_tops (fun τ42 eτ42 => ?_)
          have i43 : Inv τ42 := eτ42 ▸ Inv.putF i38 (by decide) rfl
          have f44 : Fr MS_X8_takeFrom AS_X8_takeFrom σ τ42 := eτ42 ▸ Fr.put (f39) (Or.inr (by decide))
          have v45 : x21 ∈ τ42.2.2.2.1 := by rw [eτ42]; exact v40
          refine m_aload_n C dX8_takeFrom_88 rfl rfl ?_
          refine g_1_6 C hj q1_89 dX8_takeFrom_89 ?_
          refine m_iload_n C dX8_takeFrom_92 rfl rfl ?_
          refine m_aload_n C dX8_takeFrom_93 rfl rfl ?_
          refine g_1_6 C hj2 q1_89 dX8_takeFrom_94 ?_
          refine m_iload_n C dX8_takeFrom_97 rfl rfl ?_
          refine al_3 C hj2 b20 (by decide) rfl dX8_takeFrom_98 ?_
          refine m_topi (fun x46 ex46 => ?_)
          refine as_3 C hj b20 (by decide) rfl dX8_takeFrom_99 ?_
          refine m_tops (fun τ47 eτ47 => ?_)
          have i48 : Inv τ47 := eτ47 ▸ Inv.putF i43 (by decide) rfl
          have f49 : Fr MS_X8_takeFrom AS_X8_takeFrom σ τ47 := eτ47 ▸ Fr.put (f44) (Or.inr (by decide))
          have v50 : x21 ∈ τ47.2.2.2.1 := by rw [eτ47]; exact v45
          obtain ⟨x51, ex51⟩ : ∃ y : Int32, y = y2 + 1 := ⟨_, rfl⟩
          have tx51 : x51.toInt = y2.toInt + 1 := by rw [ex51, ti_addv b20 kc_1 (by decide), kt_1]
          have b52 : IV x51 1 7 := by rw [ex51]; exact iv_add b20 kc_1 (by decide)
          refine m_iinc (v := x51) (L1 := [some (.ref (G.1 1 j)), some (.ref (G.1 1 j2)), some (.int x51)]) C dX8_takeFrom_100 rfl (by rw [ex51]; rfl) (by decide) rfl rfl ?_
          refine m_goto (tgt := 58) C dX8_takeFrom_103 (by decide) ?_
          exact ih58 τ47 x51 i48 f49 (iv_wk b52 (by decide)) (by have q := hm58; omega)
  refine m_aload_n C dX8_takeFrom_0 rfl rfl ?_
  refine m_aload_n C dX8_takeFrom_1 rfl rfl ?_
  refine g_1_0 C hj2 q1_74 dX8_takeFrom_2 ?_
  refine m_topi (fun x53 ex53 => ?_)
  refine p_1_0 C hj q1_74 dX8_takeFrom_5 ?_
  refine m_tops (fun τ54 eτ54 => ?_)
  have i55 : Inv τ54 := eτ54 ▸ Inv.putF hI (by decide) rfl
  have f56 : Fr MS_X8_takeFrom AS_X8_takeFrom σ τ54 := eτ54 ▸ Fr.put (Fr.rf) (Or.inl (by decide))
  refine m_aload_n C dX8_takeFrom_8 rfl rfl ?_
  refine m_aload_n C dX8_takeFrom_9 rfl rfl ?_
  refine g_1_1 C hj2 q1_77 dX8_takeFrom_10 ?_
  refine m_topi (fun x57 ex57 => ?_)
  refine p_1_1 C hj q1_77 dX8_takeFrom_13 ?_
  refine m_tops (fun τ58 eτ58 => ?_)
  have i59 : Inv τ58 := eτ58 ▸ Inv.putF i55 (by decide) rfl
  have f60 : Fr MS_X8_takeFrom AS_X8_takeFrom σ τ58 := eτ58 ▸ Fr.put (f56) (Or.inl (by decide))
  refine m_aload_n C dX8_takeFrom_16 rfl rfl ?_
  refine m_aload_n C dX8_takeFrom_17 rfl rfl ?_
  refine g_1_2 C hj2 q1_80 dX8_takeFrom_18 ?_
  refine m_topi (fun x61 ex61 => ?_)
  have b62 : IV x61 0 7 := by rw [ex61]; exact i59.1 1 j2 2
  refine p_1_2 C hj q1_80 dX8_takeFrom_21 ?_
  refine m_tops (fun τ63 eτ63 => ?_)
  have i64 : Inv τ63 := eτ63 ▸ Inv.put i59 (by decide) b62
  have f65 : Fr MS_X8_takeFrom AS_X8_takeFrom σ τ63 := eτ63 ▸ Fr.put (f60) (Or.inl (by decide))
  refine m_aload_n C dX8_takeFrom_24 rfl rfl ?_
  refine m_aload_n C dX8_takeFrom_25 rfl rfl ?_
  refine g_1_3 C hj2 q1_83 dX8_takeFrom_26 ?_
  refine m_topi (fun x66 ex66 => ?_)
  have b67 : IV x66 0 4 := by rw [ex66]; exact i64.1 1 j2 3
  refine p_1_3 C hj q1_83 dX8_takeFrom_29 ?_
  refine m_tops (fun τ68 eτ68 => ?_)
  have i69 : Inv τ68 := eτ68 ▸ Inv.put i64 (by decide) b67
  have f70 : Fr MS_X8_takeFrom AS_X8_takeFrom σ τ68 := eτ68 ▸ Fr.put (f65) (Or.inl (by decide))
  refine m_aload_n C dX8_takeFrom_32 rfl rfl ?_
  refine m_aload_n C dX8_takeFrom_33 rfl rfl ?_
  refine g_1_9 C hj2 q1_95 dX8_takeFrom_34 ?_
  refine m_topi (fun x71 ex71 => ?_)
  refine p_1_9 C hj q1_95 dX8_takeFrom_37 ?_
  refine m_tops (fun τ72 eτ72 => ?_)
  have i73 : Inv τ72 := eτ72 ▸ Inv.putF i69 (by decide) rfl
  have f74 : Fr MS_X8_takeFrom AS_X8_takeFrom σ τ72 := eτ72 ▸ Fr.put (f70) (Or.inl (by decide))
  refine m_aload_n C dX8_takeFrom_40 rfl rfl ?_
  refine m_aload_n C dX8_takeFrom_41 rfl rfl ?_
  refine g_1_10 C hj2 q1_97 dX8_takeFrom_42 ?_
  refine m_topi (fun x75 ex75 => ?_)
  refine p_1_10 C hj q1_97 dX8_takeFrom_45 ?_
  refine m_tops (fun τ76 eτ76 => ?_)
  have i77 : Inv τ76 := eτ76 ▸ Inv.putF i73 (by decide) rfl
  have f78 : Fr MS_X8_takeFrom AS_X8_takeFrom σ τ76 := eτ76 ▸ Fr.put (f74) (Or.inl (by decide))
  refine m_aload_n C dX8_takeFrom_48 rfl rfl ?_
  refine m_aload_n C dX8_takeFrom_49 rfl rfl ?_
  refine g_1_11 C hj2 q1_99 dX8_takeFrom_50 ?_
  refine m_topi (fun x79 ex79 => ?_)
  refine p_1_11 C hj q1_99 dX8_takeFrom_53 ?_
  refine m_tops (fun τ80 eτ80 => ?_)
  have i81 : Inv τ80 := eτ80 ▸ Inv.putF i77 (by decide) rfl
  have f82 : Fr MS_X8_takeFrom AS_X8_takeFrom σ τ80 := eτ80 ▸ Fr.put (f78) (Or.inl (by decide))
  refine m_iconst (v := 0) C dX8_takeFrom_56 (by decide) ?_
  refine m_istore_n (L1 := [some (.ref (G.1 1 j)), some (.ref (G.1 1 j2)), some (.int 0)]) C dX8_takeFrom_57 rfl (by decide) rfl rfl ?_
  exact J58 ((7 - (0 : Int32).toInt).toNat + 1) τ80 0 i81 f82 (iv_wk kc_0 (by decide)) (Nat.lt_succ_self _)

abbrev MS_X8_leanWith : List (Nat × Nat) := []
abbrev AS_X8_leanWith : List Nat := []
set_option maxHeartbeats 4000000 in
set_option maxRecDepth 100000 in
theorem c_X8_leanWith (l : Launch) (G : Gt) (σ : Sg) {j : Nat} (hj : j < 28) (a1 : Int32) (a2 : Int32) (hI : Inv σ) : Mc l G yX8_leanWith cX8_leanWith 6 (some .int) 1 22 0 0 [.ref (G.1 1 j), .int a1, .int a2] σ (PI fun r τ => Inv τ ∧ Fr MS_X8_leanWith AS_X8_leanWith σ τ ∧ IV r (-2147483648) 2147483647) := by
  refine Mc.of (L0 := [some (.ref (G.1 1 j)), some (.int a1), some (.int a2), none, none, none]) (by decide) (Nat.le_of_ble_eq_true rfl) rfl ?_
  intro p e s m args below meth c C hr hlk
  have C : Cx p s m args c cX8_leanWith 6 "LeanTower$Tower" := C
  have k0 : (0 : Int32).toInt = 0 := by decide
  have k1 : (1 : Int32).toInt = 1 := by decide
  have J62 : ∀ (n : Nat) (τ : Sg) (y3 : Int32) (y4 : Int32), Inv τ → Fr MS_X8_leanWith AS_X8_leanWith σ τ → IV a1 (-2147483648) 2147483647 → IV a2 (-2147483648) 2147483647 → IV y3 (-2147483648) 2147483647 → IV y4 0 7 → (7 - y4.toInt).toNat < n → MW p l e { frames := 1, cells := 0, slots := 0, locals := 22 } s m args below meth c (MQ below (QP G (PI fun r τ => Inv τ ∧ Fr MS_X8_leanWith AS_X8_leanWith σ τ ∧ IV r (-2147483648) 2147483647)) args s 0 0 (aG G)) 6 G 0 0 62 [some (.ref (G.1 1 j)), some (.int a1), some (.int a2), some (.int y3), some (.int y4), none] [] τ := by
    intro n
    induction n with
    | zero => intro τ y3 y4 iτ fτ b_a1 b_a2 b_y3 b_y4 hm; exact absurd hm (Nat.not_lt_zero _)
    | succ n ih62 =>
      intro τ y3 y4 iτ fτ b_a1 b_a2 b_y3 b_y4 hm62
      refine m_iload C dX8_leanWith_62 rfl ?_
      refine m_aload_n C dX8_leanWith_64 rfl rfl ?_
      refine g_1_2 C hj q1_80 dX8_leanWith_65 ?_
      refine m_topi (fun x1 ex1 => ?_)
      have b2 : IV x1 0 7 := by rw [ex1]; exact iτ.1 1 j 2
      refine m_icmp_ge (tgt := 119) C dX8_leanWith_68 (by decide) (fun c3 => ?_) (fun c3 => ?_)
      · have f4 : x1.toInt ≤ y4.toInt := by
          have q : _ := c3
          simp only [ti_nle, ti_nlt, ti_le, ti_lt, ti_eq, ti_ne, Classical.not_not] at q
          omega
        refine m_iload_n C dX8_leanWith_119 rfl rfl ?_
        exact m_iret C hr hlk (by decide) (by decide) dX8_leanWith_120 ⟨_, rfl, iτ, fτ, b_y3⟩
      · have f5 : y4.toInt < x1.toInt := by
          have q : _ := c3
          simp only [ti_nle, ti_nlt, ti_le, ti_lt, ti_eq, ti_ne, Classical.not_not] at q
          omega
        have b6 : IV y4 0 6 := ⟨by have q1 := b_y4; have q2 := b2; omega, by have q1 := b_y4; have q2 := b2; omega⟩
        have b7 : IV x1 1 7 := ⟨by have q1 := b_y4; have q2 := b2; omega, by have q1 := b_y4; have q2 := b2; omega⟩
        refine m_aload_n C dX8_leanWith_71 rfl rfl ?_
        refine g_1_4 C hj q1_86 dX8_leanWith_72 ?_
        refine m_iload C dX8_leanWith_75 rfl ?_
        refine al_6 (n := (y4.toInt.toNat)) C hj b6 (by decide) rfl dX8_leanWith_77 (fun h9 => ?_) (fun x8 h9 => ?_)
        · skip
          refine m_astoreN (L1 := [some (.ref (G.1 1 j)), some (.int a1), some (.int a2), some (.int y3), some (.int y4), some (.null)]) C dX8_leanWith_78 (by decide) rfl rfl ?_
          refine m_aloadN C dX8_leanWith_80 rfl ?_
          refine m_ifnullN (tgt := 113) C dX8_leanWith_82 (by decide) ?_
          obtain ⟨x10, ex10⟩ : ∃ y : Int32, y = y4 + 1 := ⟨_, rfl⟩
          have tx10 : x10.toInt = y4.toInt + 1 := by rw [ex10, ti_addv b6 kc_1 (by decide), kt_1]
          have b11 : IV x10 1 7 := by rw [ex10]; exact iv_add b6 kc_1 (by decide)
          refine m_iinc (v := x10) (L1 := [some (.ref (G.1 1 j)), some (.int a1), some (.int a2), some (.int y3), some (.int x10), some (.null)]) C dX8_leanWith_113 rfl (by rw [ex10]; rfl) (by decide) rfl rfl ?_
          refine m_goto (tgt := 62) C dX8_leanWith_116 (by decide) ?_
          refine m_sub (L1 := [some (.ref (G.1 1 j)), some (.int a1), some (.int a2), some (.int y3), some (.int x10), none]) ⟨rfl, ⟨rfl, ⟨rfl, ⟨rfl, ⟨rfl, trivial⟩⟩⟩⟩⟩ ?_
          exact ih62 τ y3 x10 iτ fτ b_a1 b_a2 b_y3 (iv_wk b11 (by decide)) (by have q := hm62; omega)
        · have v12 : x8 ∈ τ.2.2.2.1 := iτ.2.2.1 _ _ _ h9
          refine m_astore (L1 := [some (.ref (G.1 1 j)), some (.int a1), some (.int a2), some (.int y3), some (.int y4), some (.ref x8)]) C dX8_leanWith_78 (by decide) rfl rfl ?_
          refine m_aload C dX8_leanWith_80 rfl ?_
          refine m_ifnull C dX8_leanWith_82 ?_
          refine m_iload_n C dX8_leanWith_85 rfl rfl ?_
          refine m_iload C dX8_leanWith_86 rfl ?_
          refine m_ishr C dX8_leanWith_88 ?_
          refine m_topi (fun x13 ex13 => ?_)
          refine m_iconst (v := 1) C dX8_leanWith_89 (by decide) ?_
          refine m_iand C dX8_leanWith_90 ?_
          refine m_topi (fun x14 ex14 => ?_)
          have b15 : IV x14 0 1 := by rw [ex14]; exact iv_and_r kc_1 (by decide)
          refine m_iconst (v := 1) C dX8_leanWith_91 (by decide) ?_
          refine m_icmp_ne (tgt := 113) C dX8_leanWith_92 (by decide) (fun c16 => ?_) (fun c16 => ?_)
          · have f17 : x14.toInt ≠ 1 := by
              have q : _ := c16
              simp only [ti_nle, ti_nlt, ti_le, ti_lt, ti_eq, ti_ne, Classical.not_not, kt_1] at q
              omega
            have b18 : IV x14 0 0 := ⟨by have q1 := b15; have q2 := kc_1; omega, by have q1 := b15; have q2 := kc_1; omega⟩
            obtain ⟨x19, ex19⟩ : ∃ y : Int32, y = y4 + 1 := ⟨_, rfl⟩
            have tx19 : x19.toInt = y4.toInt + 1 := by rw [ex19, ti_addv b6 kc_1 (by decide), kt_1]
            have b20 : IV x19 1 7 := by rw [ex19]; exact iv_add b6 kc_1 (by decide)
            refine m_iinc (v := x19) (L1 := [some (.ref (G.1 1 j)), some (.int a1), some (.int a2), some (.int y3), some (.int x19), some (.ref x8)]) C dX8_leanWith_113 rfl (by rw [ex19]; rfl) (by decide) rfl rfl ?_
            refine m_goto (tgt := 62) C dX8_leanWith_116 (by decide) ?_
            refine m_sub (L1 := [some (.ref (G.1 1 j)), some (.int a1), some (.int a2), some (.int y3), some (.int x19), none]) ⟨rfl, ⟨rfl, ⟨rfl, ⟨rfl, ⟨rfl, trivial⟩⟩⟩⟩⟩ ?_
            exact ih62 τ y3 x19 iτ fτ b_a1 b_a2 b_y3 (iv_wk b20 (by decide)) (by have q := hm62; omega)
          · have f21 : x14.toInt = 1 := by
              have q : _ := c16
              simp only [ti_nle, ti_nlt, ti_le, ti_lt, ti_eq, ti_ne, Classical.not_not, kt_1] at q
              omega
            have b22 : IV x14 1 1 := ⟨by have q1 := b15; have q2 := kc_1; omega, by have q1 := b15; have q2 := kc_1; omega⟩
            refine m_iload_n C dX8_leanWith_95 rfl rfl ?_
            refine m_aload C dX8_leanWith_96 rfl ?_
            refine gp_1 C iτ.2.2 v12 q2_182 dX8_leanWith_98 ?_
            refine m_topi (fun x23 ex23 => ?_)
            refine m_aload_n C dX8_leanWith_101 rfl rfl ?_
            refine m_iload C dX8_leanWith_102 rfl ?_
            refine m_callV (n := 1) (ci := 7) (st := [.int x23, .int y3]) C (c_X8_sideOf l G τ (j := j) hj (y4) iτ b6) (by decide) hj rfl rfl rfl q3_89 q3_86 q3_87 q3_88 q1_3 (by decide +kernel) rfl (by decide) (by decide) rfl (Nat.le_of_ble_eq_true rfl) dX8_leanWith_104 ?_
            rintro _ τ24 ⟨x27, rfl, i25, f26, b28⟩
            have g29 : Fr MS_X8_leanWith AS_X8_leanWith σ τ24 := Fr.call (fτ) f26 (by decide)
            have v31 : x8 ∈ τ24.2.2.2.1 := by rw [f26.2.2 (by decide)]; exact v12
            show MW p l e _ s m args below meth c _ 6 G 0 0 107 [some (.ref (G.1 1 j)), some (.int a1), some (.int a2), some (.int y3), some (.int y4), some (.ref x8)] [.int x27, .int x23, .int y3] τ24
            refine m_iload_n C dX8_leanWith_107 rfl rfl ?_
            refine m_callS (n := 3) (st := [.int y3]) C (c_X8_pull l G τ24 (x23) (x27) (a2) i25 ) q3_85 q3_83 q3_84 q1_3 (by decide +kernel) rfl (by decide) (by decide) rfl (Nat.le_of_ble_eq_true rfl) dX8_leanWith_108 ?_
            rintro _ τ32 ⟨x35, rfl, i33, f34, b36⟩
            have g37 : Fr MS_X8_leanWith AS_X8_leanWith σ τ32 := Fr.call (g29) f34 (by decide)
            have v39 : x8 ∈ τ32.2.2.2.1 := by rw [f34.2.2 (by decide)]; exact v31
            show MW p l e _ s m args below meth c _ 6 G 0 0 111 [some (.ref (G.1 1 j)), some (.int a1), some (.int a2), some (.int y3), some (.int y4), some (.ref x8)] [.int x35, .int y3] τ32
            refine m_iadd C dX8_leanWith_111 ?_
            refine m_topi (fun x40 ex40 => ?_)
            refine m_istore_n (L1 := [some (.ref (G.1 1 j)), some (.int a1), some (.int a2), some (.int x40), some (.int y4), some (.ref x8)]) C dX8_leanWith_112 rfl (by decide) rfl rfl ?_
            obtain ⟨x41, ex41⟩ : ∃ y : Int32, y = y4 + 1 := ⟨_, rfl⟩
            have tx41 : x41.toInt = y4.toInt + 1 := by rw [ex41, ti_addv b6 kc_1 (by decide), kt_1]
            have b42 : IV x41 1 7 := by rw [ex41]; exact iv_add b6 kc_1 (by decide)
            refine m_iinc (v := x41) (L1 := [some (.ref (G.1 1 j)), some (.int a1), some (.int a2), some (.int x40), some (.int x41), some (.ref x8)]) C dX8_leanWith_113 rfl (by rw [ex41]; rfl) (by decide) rfl rfl ?_
            refine m_goto (tgt := 62) C dX8_leanWith_116 (by decide) ?_
            refine m_sub (L1 := [some (.ref (G.1 1 j)), some (.int a1), some (.int a2), some (.int x40), some (.int x41), none]) ⟨rfl, ⟨rfl, ⟨rfl, ⟨rfl, ⟨rfl, trivial⟩⟩⟩⟩⟩ ?_
            exact ih62 τ32 x40 x41 i33 g37 b_a1 b_a2 (iv_any x40) (iv_wk b42 (by decide)) (by have q := hm62; omega)
  have J23 : ∀ (n : Nat) (τ : Sg) (y3 : Int32) (y4 : Int32), Inv τ → Fr MS_X8_leanWith AS_X8_leanWith σ τ → IV a1 (-2147483648) 2147483647 → IV a2 (-2147483648) 2147483647 → IV y3 (-2147483648) 2147483647 → IV y4 0 4 → (4 - y4.toInt).toNat < n → MW p l e { frames := 1, cells := 0, slots := 0, locals := 22 } s m args below meth c (MQ below (QP G (PI fun r τ => Inv τ ∧ Fr MS_X8_leanWith AS_X8_leanWith σ τ ∧ IV r (-2147483648) 2147483647)) args s 0 0 (aG G)) 6 G 0 0 23 [some (.ref (G.1 1 j)), some (.int a1), some (.int a2), some (.int y3), some (.int y4), none] [] τ := by
    intro n
    induction n with
    | zero => intro τ y3 y4 iτ fτ b_a1 b_a2 b_y3 b_y4 hm; exact absurd hm (Nat.not_lt_zero _)
    | succ n ih23 =>
      intro τ y3 y4 iτ fτ b_a1 b_a2 b_y3 b_y4 hm23
      refine m_iload C dX8_leanWith_23 rfl ?_
      refine m_aload_n C dX8_leanWith_25 rfl rfl ?_
      refine g_1_3 C hj q1_83 dX8_leanWith_26 ?_
      refine m_topi (fun x43 ex43 => ?_)
      have b44 : IV x43 0 4 := by rw [ex43]; exact iτ.1 1 j 3
      refine m_icmp_ge (tgt := 59) C dX8_leanWith_29 (by decide) (fun c45 => ?_) (fun c45 => ?_)
      · have f46 : x43.toInt ≤ y4.toInt := by
          have q : _ := c45
          simp only [ti_nle, ti_nlt, ti_le, ti_lt, ti_eq, ti_ne, Classical.not_not] at q
          omega
        refine m_iconst (v := 0) C dX8_leanWith_59 (by decide) ?_
        refine m_istore (L1 := [some (.ref (G.1 1 j)), some (.int a1), some (.int a2), some (.int y3), some (.int 0), none]) C dX8_leanWith_60 (by decide) rfl rfl ?_
        exact J62 ((7 - (0 : Int32).toInt).toNat + 1) τ y3 0 iτ fτ b_a1 b_a2 b_y3 (iv_wk kc_0 (by decide)) (Nat.lt_succ_self _)
      · have f47 : y4.toInt < x43.toInt := by
          have q : _ := c45
          simp only [ti_nle, ti_nlt, ti_le, ti_lt, ti_eq, ti_ne, Classical.not_not] at q
          omega
        have b48 : IV y4 0 3 := ⟨by have q1 := b_y4; have q2 := b44; omega, by have q1 := b_y4; have q2 := b44; omega⟩
        have b49 : IV x43 1 4 := ⟨by have q1 := b_y4; have q2 := b44; omega, by have q1 := b_y4; have q2 := b44; omega⟩
        refine m_iload_n C dX8_leanWith_32 rfl rfl ?_
        refine m_aload_n C dX8_leanWith_33 rfl rfl ?_
        refine g_1_7 C hj q1_91 dX8_leanWith_34 ?_
        refine m_iload C dX8_leanWith_37 rfl ?_
        refine al_4 C hj b48 (by decide) rfl dX8_leanWith_39 ?_
        refine m_topi (fun x50 ex50 => ?_)
        refine m_aload_n C dX8_leanWith_40 rfl rfl ?_
        refine g_1_8 C hj q1_93 dX8_leanWith_41 ?_
        refine m_iload C dX8_leanWith_44 rfl ?_
        refine al_5 C hj b48 (by decide) rfl dX8_leanWith_46 ?_
        refine m_topi (fun x51 ex51 => ?_)
        refine m_iload_n C dX8_leanWith_47 rfl rfl ?_
        refine m_callS (n := 3) (st := [.int y3]) C (c_X8_pull l G τ (x50) (x51) (a2) iτ ) q3_85 q3_83 q3_84 q1_3 (by decide +kernel) rfl (by decide) (by decide) rfl (Nat.le_of_ble_eq_true rfl) dX8_leanWith_48 ?_
        rintro _ τ52 ⟨x55, rfl, i53, f54, b56⟩
        have g57 : Fr MS_X8_leanWith AS_X8_leanWith σ τ52 := Fr.call (fτ) f54 (by decide)
        show MW p l e _ s m args below meth c _ 6 G 0 0 51 [some (.ref (G.1 1 j)), some (.int a1), some (.int a2), some (.int y3), some (.int y4), none] [.int x55, .int y3] τ52
        refine m_iadd C dX8_leanWith_51 ?_
        refine m_topi (fun x59 ex59 => ?_)
        refine m_istore_n (L1 := [some (.ref (G.1 1 j)), some (.int a1), some (.int a2), some (.int x59), some (.int y4), none]) C dX8_leanWith_52 rfl (by decide) rfl rfl ?_
        obtain ⟨x60, ex60⟩ : ∃ y : Int32, y = y4 + 1 := ⟨_, rfl⟩
        have tx60 : x60.toInt = y4.toInt + 1 := by rw [ex60, ti_addv b48 kc_1 (by decide), kt_1]
        have b61 : IV x60 1 4 := by rw [ex60]; exact iv_add b48 kc_1 (by decide)
        refine m_iinc (v := x60) (L1 := [some (.ref (G.1 1 j)), some (.int a1), some (.int a2), some (.int x59), some (.int x60), none]) C dX8_leanWith_53 rfl (by rw [ex60]; rfl) (by decide) rfl rfl ?_
        refine m_goto (tgt := 23) C dX8_leanWith_56 (by decide) ?_
        exact ih23 τ52 x59 x60 i53 g57 b_a1 b_a2 (iv_any x59) (iv_wk b61 (by decide)) (by have q := hm23; omega)
  refine m_aload_n C dX8_leanWith_0 rfl rfl ?_
  refine g_1_10 C hj q1_97 dX8_leanWith_1 ?_
  refine m_topi (fun x62 ex62 => ?_)
  refine m_iconst (v := 0) C dX8_leanWith_4 (by decide) ?_
  refine m_iload_n C dX8_leanWith_5 rfl rfl ?_
  refine m_callS (n := 3) (st := []) C (c_X8_pull l G σ (x62) (0) (a2) hI ) q3_85 q3_83 q3_84 q1_3 (by decide +kernel) rfl (by decide) (by decide) rfl (Nat.le_of_ble_eq_true rfl) dX8_leanWith_6 ?_
  rintro _ τ63 ⟨x66, rfl, i64, f65, b67⟩
  have g68 : Fr MS_X8_leanWith AS_X8_leanWith σ τ63 := Fr.call (Fr.rf) f65 (by decide)
  show MW p l e _ s m args below meth c _ 6 G 0 0 9 [some (.ref (G.1 1 j)), some (.int a1), some (.int a2), none, none, none] [.int x66] τ63
  refine m_aload_n C dX8_leanWith_9 rfl rfl ?_
  refine g_1_11 C hj q1_99 dX8_leanWith_10 ?_
  refine m_topi (fun x70 ex70 => ?_)
  refine m_iconst (v := 1) C dX8_leanWith_13 (by decide) ?_
  refine m_iload_n C dX8_leanWith_14 rfl rfl ?_
  refine m_callS (n := 3) (st := [.int x66]) C (c_X8_pull l G τ63 (x70) (1) (a2) i64 ) q3_85 q3_83 q3_84 q1_3 (by decide +kernel) rfl (by decide) (by decide) rfl (Nat.le_of_ble_eq_true rfl) dX8_leanWith_15 ?_
  rintro _ τ71 ⟨x74, rfl, i72, f73, b75⟩
  have g76 : Fr MS_X8_leanWith AS_X8_leanWith σ τ71 := Fr.call (g68) f73 (by decide)
  show MW p l e _ s m args below meth c _ 6 G 0 0 18 [some (.ref (G.1 1 j)), some (.int a1), some (.int a2), none, none, none] [.int x74, .int x66] τ71
  refine m_iadd C dX8_leanWith_18 ?_
  refine m_topi (fun x78 ex78 => ?_)
  refine m_istore_n (L1 := [some (.ref (G.1 1 j)), some (.int a1), some (.int a2), some (.int x78), none, none]) C dX8_leanWith_19 rfl (by decide) rfl rfl ?_
  refine m_iconst (v := 0) C dX8_leanWith_20 (by decide) ?_
  refine m_istore (L1 := [some (.ref (G.1 1 j)), some (.int a1), some (.int a2), some (.int x78), some (.int 0), none]) C dX8_leanWith_21 (by decide) rfl rfl ?_
  exact J23 ((4 - (0 : Int32).toInt).toNat + 1) τ71 x78 0 i72 g76 (iv_any a1) (iv_any a2) (iv_any x78) (iv_wk kc_0 (by decide)) (Nat.lt_succ_self _)

abbrev MS_X8_tiltWith : List (Nat × Nat) := []
abbrev AS_X8_tiltWith : List Nat := []
set_option maxHeartbeats 4000000 in
set_option maxRecDepth 100000 in
theorem c_X8_tiltWith (l : Launch) (G : Gt) (σ : Sg) {j : Nat} (hj : j < 28) (a1 : Int32) (hI : Inv σ) : Mc l G yX8_tiltWith cX8_tiltWith 2 (some .int) 2 47 0 0 [.ref (G.1 1 j), .int a1] σ (PI fun r τ => Inv τ ∧ Fr MS_X8_tiltWith AS_X8_tiltWith σ τ ∧ IV r (-2147483648) 2147483647) := by
  refine Mc.of (L0 := [some (.ref (G.1 1 j)), some (.int a1)]) (by decide) (Nat.le_of_ble_eq_true rfl) rfl ?_
  intro p e s m args below meth c C hr hlk
  have C : Cx p s m args c cX8_tiltWith 2 "LeanTower$Tower" := C
  have k0 : (0 : Int32).toInt = 0 := by decide
  have k1 : (1 : Int32).toInt = 1 := by decide
  refine m_aload_n C dX8_tiltWith_0 rfl rfl ?_
  refine m_iload_n C dX8_tiltWith_1 rfl rfl ?_
  refine m_iconst (v := 0) C dX8_tiltWith_2 (by decide) ?_
  refine m_callV (n := 2) (ci := 7) (st := []) C (c_X8_leanWith l G σ (j := j) hj (a1) (0) hI ) (by decide) hj rfl rfl rfl q3_82 q3_79 q3_80 q3_81 q1_3 (by decide +kernel) rfl (by decide) (by decide) rfl (Nat.le_of_ble_eq_true rfl) dX8_tiltWith_3 ?_
  rintro _ τ1 ⟨x4, rfl, i2, f3, b5⟩
  have g6 : Fr MS_X8_tiltWith AS_X8_tiltWith σ τ1 := Fr.call (Fr.rf) f3 (by decide)
  show MW p l e _ s m args below meth c _ 2 G 0 0 6 [some (.ref (G.1 1 j)), some (.int a1)] [.int x4] τ1
  refine m_abs (st := []) C q3_65 q3_66 q1_19 q3_67 ⟨by decide, Nat.le_of_ble_eq_true rfl⟩ (by decide) dX8_tiltWith_6 (fun x8 ex8 => ?_)
  refine m_aload_n C dX8_tiltWith_9 rfl rfl ?_
  refine m_iload_n C dX8_tiltWith_10 rfl rfl ?_
  refine m_iconst (v := 1) C dX8_tiltWith_11 (by decide) ?_
  refine m_callV (n := 2) (ci := 7) (st := [.int x8]) C (c_X8_leanWith l G τ1 (j := j) hj (a1) (1) i2 ) (by decide) hj rfl rfl rfl q3_82 q3_79 q3_80 q3_81 q1_3 (by decide +kernel) rfl (by decide) (by decide) rfl (Nat.le_of_ble_eq_true rfl) dX8_tiltWith_12 ?_
  rintro _ τ9 ⟨x12, rfl, i10, f11, b13⟩
  have g14 : Fr MS_X8_tiltWith AS_X8_tiltWith σ τ9 := Fr.call (g6) f11 (by decide)
  show MW p l e _ s m args below meth c _ 2 G 0 0 15 [some (.ref (G.1 1 j)), some (.int a1)] [.int x12, .int x8] τ9
  refine m_abs (st := [.int x8]) C q3_65 q3_66 q1_19 q3_67 ⟨by decide, Nat.le_of_ble_eq_true rfl⟩ (by decide) dX8_tiltWith_15 (fun x16 ex16 => ?_)
  refine m_max (st := []) C q3_91 q3_92 q1_19 q3_93 ⟨by decide, Nat.le_of_ble_eq_true rfl⟩ (by decide) dX8_tiltWith_18 (fun x17 ex17 => ?_)
  have tx17 : x17.toInt = max (x8.toInt) (x16.toInt) := by rw [ti_max ex17]
  exact m_iret C hr hlk (by decide) (by decide) dX8_tiltWith_21 ⟨_, rfl, i10, g14, (iv_any x17)⟩

abbrev MS_X8_isBeyond : List (Nat × Nat) := []
abbrev AS_X8_isBeyond : List Nat := []
set_option maxHeartbeats 4000000 in
set_option maxRecDepth 100000 in
theorem c_X8_isBeyond (l : Launch) (G : Gt) (σ : Sg) {j : Nat} (hj : j < 28) (hI : Inv σ) : Mc l G yX8_isBeyond cX8_isBeyond 1 (some .boolean) 3 68 0 0 [.ref (G.1 1 j)] σ (PI fun r τ => Inv τ ∧ Fr MS_X8_isBeyond AS_X8_isBeyond σ τ ∧ IV r 0 1) := by
  refine Mc.of (L0 := [some (.ref (G.1 1 j))]) (by decide) (Nat.le_of_ble_eq_true rfl) rfl ?_
  intro p e s m args below meth c C hr hlk
  have C : Cx p s m args c cX8_isBeyond 1 "LeanTower$Tower" := C
  have k0 : (0 : Int32).toInt = 0 := by decide
  have k1 : (1 : Int32).toInt = 1 := by decide
  refine m_aload_n C dX8_isBeyond_0 rfl rfl ?_
  refine m_bipush (v := 127) C dX8_isBeyond_1 (by decide) ?_
  refine m_callV (n := 1) (ci := 7) (st := []) C (c_X8_tiltWith l G σ (j := j) hj (127) hI ) (by decide) hj rfl rfl rfl q3_78 q3_75 q3_76 q3_77 q1_3 (by decide +kernel) rfl (by decide) (by decide) rfl (Nat.le_of_ble_eq_true rfl) dX8_isBeyond_3 ?_
  rintro _ τ1 ⟨x4, rfl, i2, f3, b5⟩
  have g6 : Fr MS_X8_isBeyond AS_X8_isBeyond σ τ1 := Fr.call (Fr.rf) f3 (by decide)
  show MW p l e _ s m args below meth c _ 1 G 0 0 6 [some (.ref (G.1 1 j))] [.int x4] τ1
  refine m_aload_n C dX8_isBeyond_6 rfl rfl ?_
  refine g_1_1 C hj q1_77 dX8_isBeyond_7 ?_
  refine m_topi (fun x8 ex8 => ?_)
  refine m_icmp_le (tgt := 17) C dX8_isBeyond_10 (by decide) (fun c9 => ?_) (fun c9 => ?_)
  · have f10 : x4.toInt ≤ x8.toInt := by
      have q : _ := c9
      simp only [ti_nle, ti_nlt, ti_le, ti_lt, ti_eq, ti_ne, Classical.not_not] at q
      omega
    refine m_iconst (v := 0) C dX8_isBeyond_17 (by decide) ?_
    exact m_zret C hr rfl hlk (by decide) (by decide) dX8_isBeyond_18 ⟨_, rfl, i2, g6, (iv_wk kc_0 (by decide))⟩
  · have f11 : x8.toInt < x4.toInt := by
      have q : _ := c9
      simp only [ti_nle, ti_nlt, ti_le, ti_lt, ti_eq, ti_ne, Classical.not_not] at q
      omega
    have b12 : IV x8 (-2147483648) 2147483646 := ⟨by have q1 := (iv_any x8); have q2 := b5; omega, by have q1 := (iv_any x8); have q2 := b5; omega⟩
    have b13 : IV x4 (-2147483647) 2147483647 := ⟨by have q1 := (iv_any x8); have q2 := b5; omega, by have q1 := (iv_any x8); have q2 := b5; omega⟩
    refine m_iconst (v := 1) C dX8_isBeyond_13 (by decide) ?_
    refine m_goto (tgt := 18) C dX8_isBeyond_14 (by decide) ?_
    exact m_zret C hr rfl hlk (by decide) (by decide) dX8_isBeyond_18 ⟨_, rfl, i2, g6, (iv_wk kc_1 (by decide))⟩

abbrev MS_X8_passYear : List (Nat × Nat) := [(1, 10), (1, 11)]
abbrev AS_X8_passYear : List Nat := []
set_option maxHeartbeats 4000000 in
set_option maxRecDepth 100000 in
theorem c_X8_passYear (l : Launch) (G : Gt) (σ : Sg) {j : Nat} (hj : j < 28) (hI : Inv σ) : Mc l G yX8_passYear cX8_passYear 3 none 2 47 0 0 [.ref (G.1 1 j)] σ (PV fun τ => Inv τ ∧ Fr MS_X8_passYear AS_X8_passYear σ τ) := by
  refine Mc.of (L0 := [some (.ref (G.1 1 j)), none, none]) (by decide) (Nat.le_of_ble_eq_true rfl) rfl ?_
  intro p e s m args below meth c C hr hlk
  have C : Cx p s m args c cX8_passYear 3 "LeanTower$Tower" := C
  have k0 : (0 : Int32).toInt = 0 := by decide
  have k1 : (1 : Int32).toInt = 1 := by decide
  refine m_aload_n C dX8_passYear_0 rfl rfl ?_
  refine m_bipush (v := 127) C dX8_passYear_1 (by decide) ?_
  refine m_iconst (v := 0) C dX8_passYear_3 (by decide) ?_
  refine m_callV (n := 2) (ci := 7) (st := []) C (c_X8_leanWith l G σ (j := j) hj (127) (0) hI ) (by decide) hj rfl rfl rfl q3_82 q3_79 q3_80 q3_81 q1_3 (by decide +kernel) rfl (by decide) (by decide) rfl (Nat.le_of_ble_eq_true rfl) dX8_passYear_4 ?_
  rintro _ τ1 ⟨x4, rfl, i2, f3, b5⟩
  have g6 : Fr MS_X8_passYear AS_X8_passYear σ τ1 := Fr.call (Fr.rf) f3 (by decide)
  show MW p l e _ s m args below meth c _ 3 G 0 0 7 [some (.ref (G.1 1 j)), none, none] [.int x4] τ1
  refine m_istore_n (L1 := [some (.ref (G.1 1 j)), some (.int x4), none]) C dX8_passYear_7 rfl (by decide) rfl rfl ?_
  refine m_aload_n C dX8_passYear_8 rfl rfl ?_
  refine m_bipush (v := 127) C dX8_passYear_9 (by decide) ?_
  refine m_iconst (v := 1) C dX8_passYear_11 (by decide) ?_
  refine m_callV (n := 2) (ci := 7) (st := []) C (c_X8_leanWith l G τ1 (j := j) hj (127) (1) i2 ) (by decide) hj rfl rfl rfl q3_82 q3_79 q3_80 q3_81 q1_3 (by decide +kernel) rfl (by decide) (by decide) rfl (Nat.le_of_ble_eq_true rfl) dX8_passYear_12 ?_
  rintro _ τ8 ⟨x11, rfl, i9, f10, b12⟩
  have g13 : Fr MS_X8_passYear AS_X8_passYear σ τ8 := Fr.call (g6) f10 (by decide)
  show MW p l e _ s m args below meth c _ 3 G 0 0 15 [some (.ref (G.1 1 j)), some (.int x4), none] [.int x11] τ8
  refine m_istore_n (L1 := [some (.ref (G.1 1 j)), some (.int x4), some (.int x11)]) C dX8_passYear_15 rfl (by decide) rfl rfl ?_
  refine m_aload_n C dX8_passYear_16 rfl rfl ?_
  refine m_dup C dX8_passYear_17 rfl ?_
  refine g_1_10 C hj q1_97 dX8_passYear_18 ?_
  refine m_topi (fun x15 ex15 => ?_)
  refine m_iload_n C dX8_passYear_21 rfl rfl ?_
  refine m_bipush (v := 10) C dX8_passYear_22 (by decide) ?_
  refine m_idiv C dX8_passYear_24 (iv_nz kc_10 (by decide)) ?_
  refine m_topi (fun x16 ex16 => ?_)
  refine m_iadd C dX8_passYear_25 ?_
  refine m_topi (fun x17 ex17 => ?_)
  refine p_1_10 C hj q1_97 dX8_passYear_26 ?_
  refine m_tops (fun τ18 eτ18 => ?_)
  have i19 : Inv τ18 := eτ18 ▸ Inv.putF i9 (by decide) rfl
  have f20 : Fr MS_X8_passYear AS_X8_passYear σ τ18 := eτ18 ▸ Fr.put (g13) (Or.inl (by decide))
  refine m_aload_n C dX8_passYear_29 rfl rfl ?_
  refine m_dup C dX8_passYear_30 rfl ?_
  refine g_1_11 C hj q1_99 dX8_passYear_31 ?_
  refine m_topi (fun x21 ex21 => ?_)
  refine m_iload_n C dX8_passYear_34 rfl rfl ?_
  refine m_bipush (v := 10) C dX8_passYear_35 (by decide) ?_
  refine m_idiv C dX8_passYear_37 (iv_nz kc_10 (by decide)) ?_
  refine m_topi (fun x22 ex22 => ?_)
  refine m_iadd C dX8_passYear_38 ?_
  refine m_topi (fun x23 ex23 => ?_)
  refine p_1_11 C hj q1_99 dX8_passYear_39 ?_
  refine m_tops (fun τ24 eτ24 => ?_)
  have i25 : Inv τ24 := eτ24 ▸ Inv.putF i19 (by decide) rfl
  have f26 : Fr MS_X8_passYear AS_X8_passYear σ τ24 := eτ24 ▸ Fr.put (f20) (Or.inl (by decide))
  exact m_vret C hr hlk (by decide) (by decide) dX8_passYear_42 ⟨rfl, i25, f26⟩

abbrev MS_X6_append : List (Nat × Nat) := [(12, 1)]
abbrev AS_X6_append : List Nat := [13]
set_option maxHeartbeats 4000000 in
set_option maxRecDepth 100000 in
theorem c_X6_append (l : Launch) (G : Gt) (σ : Sg) (a1 : Int32) (hI : Inv σ) : Mc l G yX6_append cX6_append 2 none 0 0 0 0 [.ref (G.1 12 0), .int a1] σ (PV fun τ => Inv τ ∧ Fr MS_X6_append AS_X6_append σ τ) := by
  refine Mc.of (L0 := [some (.ref (G.1 12 0)), some (.int a1)]) (by decide) (Nat.le_of_ble_eq_true rfl) rfl ?_
  intro p e s m args below meth c C hr hlk
  have C : Cx p s m args c cX6_append 2 "LeanTower$Reader" := C
  have k0 : (0 : Int32).toInt = 0 := by decide
  have k1 : (1 : Int32).toInt = 1 := by decide
  refine m_aload_n C dX6_append_0 rfl rfl ?_
  refine g_12_1 C q1_38 dX6_append_1 ?_
  refine m_topi (fun x1 ex1 => ?_)
  have b2 : IV x1 0 400 := by rw [ex1]; exact hI.1 12 0 1
  refine m_sipush (v := 400) C dX6_append_4 (by decide) ?_
  refine m_icmp_ge (tgt := 30) C dX6_append_7 (by decide) (fun c3 => ?_) (fun c3 => ?_)
  · have f4 : 400 ≤ x1.toInt := by
      have q : _ := c3
      simp only [ti_nle, ti_nlt, ti_le, ti_lt, ti_eq, ti_ne, Classical.not_not, kt_400] at q
      omega
    have b5 : IV x1 400 400 := ⟨by have q1 := kc_400; have q2 := b2; omega, by have q1 := kc_400; have q2 := b2; omega⟩
    exact m_vret C hr hlk (by decide) (by decide) dX6_append_30 ⟨rfl, hI, Fr.rf⟩
  · have f6 : x1.toInt < 400 := by
      have q : _ := c3
      simp only [ti_nle, ti_nlt, ti_le, ti_lt, ti_eq, ti_ne, Classical.not_not, kt_400] at q
      omega
    have b7 : IV x1 0 399 := ⟨by have q1 := b2; have q2 := kc_400; omega, by have q1 := b2; have q2 := kc_400; omega⟩
    refine m_aload_n C dX6_append_10 rfl rfl ?_
    refine g_12_0 C q1_37 dX6_append_11 ?_
    refine m_aload_n C dX6_append_14 rfl rfl ?_
    refine g_12_1 C q1_38 dX6_append_15 ?_
    refine m_eqs (w := x1) ex1.symm ?_
    refine m_iload_n C dX6_append_18 rfl rfl ?_
    refine as_13 C b7 (by decide) rfl dX6_append_19 ?_
    obtain ⟨x8, ex8⟩ : ∃ y : Int32, y = vp_nar .byte a1 := ⟨_, rfl⟩
    rw [← ex8]
    refine m_tops (fun τ9 eτ9 => ?_)
    have i10 : Inv τ9 := eτ9 ▸ Inv.putF hI (by decide) rfl
    have f11 : Fr MS_X6_append AS_X6_append σ τ9 := eτ9 ▸ Fr.put (Fr.rf) (Or.inr (by decide))
    refine m_aload_n C dX6_append_20 rfl rfl ?_
    refine m_dup C dX6_append_21 rfl ?_
    refine g_12_1 C q1_38 dX6_append_22 ?_
    refine m_eqs (w := x1) (show gV τ9 12 0 1 = x1 from gV_put eτ9 ex1.symm) ?_
    refine m_iconst (v := 1) C dX6_append_25 (by decide) ?_
    refine m_iadd C dX6_append_26 ?_
    refine m_topi (fun x12 ex12 => ?_)
    have tx12 : x12.toInt = x1.toInt + 1 := by rw [ex12, ti_addv b7 kc_1 (by decide), kt_1]
    have b13 : IV x12 1 400 := by rw [ex12]; exact iv_add b7 kc_1 (by decide)
    refine p_12_1 C q1_38 dX6_append_27 ?_
    refine m_tops (fun τ14 eτ14 => ?_)
    have i15 : Inv τ14 := eτ14 ▸ Inv.put i10 (by decide) (iv_wk b13 (by decide))
    have f16 : Fr MS_X6_append AS_X6_append σ τ14 := eτ14 ▸ Fr.put (f11) (Or.inl (by decide))
    exact m_vret C hr hlk (by decide) (by decide) dX6_append_30 ⟨rfl, i15, f16⟩

abbrev MS_X6_isBlank : List (Nat × Nat) := []
abbrev AS_X6_isBlank : List Nat := []
set_option maxHeartbeats 4000000 in
set_option maxRecDepth 100000 in
theorem c_X6_isBlank (l : Launch) (G : Gt) (σ : Sg) (a1 : Int32) (hI : Inv σ) : Mc l G yX6_isBlank cX6_isBlank 1 (some .boolean) 0 0 0 0 [.int a1] σ (PI fun r τ => Inv τ ∧ Fr MS_X6_isBlank AS_X6_isBlank σ τ ∧ IV r 0 1) := by
  refine Mc.of (L0 := [some (.int a1)]) (by decide) (Nat.le_of_ble_eq_true rfl) rfl ?_
  intro p e s m args below meth c C hr hlk
  have C : Cx p s m args c cX6_isBlank 1 "LeanTower$Reader" := C
  have k0 : (0 : Int32).toInt = 0 := by decide
  have k1 : (1 : Int32).toInt = 1 := by decide
  refine m_iload_n C dX6_isBlank_0 rfl rfl ?_
  refine m_bipush (v := 32) C dX6_isBlank_1 (by decide) ?_
  refine m_icmp_eq (tgt := 12) C dX6_isBlank_3 (by decide) (fun c1 => ?_) (fun c1 => ?_)
  · have f2 : a1.toInt = 32 := by
      have q : _ := c1
      simp only [ti_nle, ti_nlt, ti_le, ti_lt, ti_eq, ti_ne, Classical.not_not, kt_32] at q
      omega
    have b3 : IV a1 32 32 := ⟨by have q1 := (iv_any a1); have q2 := kc_32; omega, by have q1 := (iv_any a1); have q2 := kc_32; omega⟩
    refine m_iconst (v := 1) C dX6_isBlank_12 (by decide) ?_
    refine m_goto (tgt := 17) C dX6_isBlank_13 (by decide) ?_
    exact m_zret C hr rfl hlk (by decide) (by decide) dX6_isBlank_17 ⟨_, rfl, hI, Fr.rf, (iv_wk kc_1 (by decide))⟩
  · have f4 : a1.toInt ≠ 32 := by
      have q : _ := c1
      simp only [ti_nle, ti_nlt, ti_le, ti_lt, ti_eq, ti_ne, Classical.not_not, kt_32] at q
      omega
    refine m_iload_n C dX6_isBlank_6 rfl rfl ?_
    refine m_bipush (v := 10) C dX6_isBlank_7 (by decide) ?_
    refine m_icmp_ne (tgt := 16) C dX6_isBlank_9 (by decide) (fun c5 => ?_) (fun c5 => ?_)
    · have f6 : a1.toInt ≠ 10 := by
        have q : _ := c5
        simp only [ti_nle, ti_nlt, ti_le, ti_lt, ti_eq, ti_ne, Classical.not_not, kt_10] at q
        omega
      refine m_iconst (v := 0) C dX6_isBlank_16 (by decide) ?_
      exact m_zret C hr rfl hlk (by decide) (by decide) dX6_isBlank_17 ⟨_, rfl, hI, Fr.rf, (iv_wk kc_0 (by decide))⟩
    · have f7 : a1.toInt = 10 := by
        have q : _ := c5
        simp only [ti_nle, ti_nlt, ti_le, ti_lt, ti_eq, ti_ne, Classical.not_not, kt_10] at q
        omega
      have b8 : IV a1 10 10 := ⟨by have q1 := (iv_any a1); have q2 := kc_10; omega, by have q1 := (iv_any a1); have q2 := kc_10; omega⟩
      refine m_iconst (v := 1) C dX6_isBlank_12 (by decide) ?_
      refine m_goto (tgt := 17) C dX6_isBlank_13 (by decide) ?_
      exact m_zret C hr rfl hlk (by decide) (by decide) dX6_isBlank_17 ⟨_, rfl, hI, Fr.rf, (iv_wk kc_1 (by decide))⟩

abbrev MS_X6_isLetter : List (Nat × Nat) := []
abbrev AS_X6_isLetter : List Nat := []
set_option maxHeartbeats 4000000 in
set_option maxRecDepth 100000 in
theorem c_X6_isLetter (l : Launch) (G : Gt) (σ : Sg) (a1 : Int32) (hI : Inv σ) : Mc l G yX6_isLetter cX6_isLetter 1 (some .boolean) 0 0 0 0 [.int a1] σ (PI fun r τ => Inv τ ∧ Fr MS_X6_isLetter AS_X6_isLetter σ τ ∧ IV r 0 1) := by
  refine Mc.of (L0 := [some (.int a1)]) (by decide) (Nat.le_of_ble_eq_true rfl) rfl ?_
  intro p e s m args below meth c C hr hlk
  have C : Cx p s m args c cX6_isLetter 1 "LeanTower$Reader" := C
  have k0 : (0 : Int32).toInt = 0 := by decide
  have k1 : (1 : Int32).toInt = 1 := by decide
  refine m_iload_n C dX6_isLetter_0 rfl rfl ?_
  refine m_bipush (v := 97) C dX6_isLetter_1 (by decide) ?_
  refine m_icmp_lt (tgt := 16) C dX6_isLetter_3 (by decide) (fun c1 => ?_) (fun c1 => ?_)
  · have f2 : a1.toInt < 97 := by
      have q : _ := c1
      simp only [ti_nle, ti_nlt, ti_le, ti_lt, ti_eq, ti_ne, Classical.not_not, kt_97] at q
      omega
    have b3 : IV a1 (-2147483648) 96 := ⟨by have q1 := (iv_any a1); have q2 := kc_97; omega, by have q1 := (iv_any a1); have q2 := kc_97; omega⟩
    refine m_iconst (v := 0) C dX6_isLetter_16 (by decide) ?_
    exact m_zret C hr rfl hlk (by decide) (by decide) dX6_isLetter_17 ⟨_, rfl, hI, Fr.rf, (iv_wk kc_0 (by decide))⟩
  · have f4 : 97 ≤ a1.toInt := by
      have q : _ := c1
      simp only [ti_nle, ti_nlt, ti_le, ti_lt, ti_eq, ti_ne, Classical.not_not, kt_97] at q
      omega
    have b5 : IV a1 97 2147483647 := ⟨by have q1 := kc_97; have q2 := (iv_any a1); omega, by have q1 := kc_97; have q2 := (iv_any a1); omega⟩
    refine m_iload_n C dX6_isLetter_6 rfl rfl ?_
    refine m_bipush (v := 122) C dX6_isLetter_7 (by decide) ?_
    refine m_icmp_gt (tgt := 16) C dX6_isLetter_9 (by decide) (fun c6 => ?_) (fun c6 => ?_)
    · have f7 : 122 < a1.toInt := by
        have q : _ := c6
        simp only [ti_nle, ti_nlt, ti_le, ti_lt, ti_eq, ti_ne, Classical.not_not, kt_122] at q
        omega
      have b8 : IV a1 123 2147483647 := ⟨by have q1 := kc_122; have q2 := b5; omega, by have q1 := kc_122; have q2 := b5; omega⟩
      refine m_iconst (v := 0) C dX6_isLetter_16 (by decide) ?_
      exact m_zret C hr rfl hlk (by decide) (by decide) dX6_isLetter_17 ⟨_, rfl, hI, Fr.rf, (iv_wk kc_0 (by decide))⟩
    · have f9 : a1.toInt ≤ 122 := by
        have q : _ := c6
        simp only [ti_nle, ti_nlt, ti_le, ti_lt, ti_eq, ti_ne, Classical.not_not, kt_122] at q
        omega
      have b10 : IV a1 97 122 := ⟨by have q1 := b5; have q2 := kc_122; omega, by have q1 := b5; have q2 := kc_122; omega⟩
      refine m_iconst (v := 1) C dX6_isLetter_12 (by decide) ?_
      refine m_goto (tgt := 17) C dX6_isLetter_13 (by decide) ?_
      exact m_zret C hr rfl hlk (by decide) (by decide) dX6_isLetter_17 ⟨_, rfl, hI, Fr.rf, (iv_wk kc_1 (by decide))⟩

abbrev MS_X6_isFigure : List (Nat × Nat) := []
abbrev AS_X6_isFigure : List Nat := []
set_option maxHeartbeats 4000000 in
set_option maxRecDepth 100000 in
theorem c_X6_isFigure (l : Launch) (G : Gt) (σ : Sg) (a1 : Int32) (hI : Inv σ) : Mc l G yX6_isFigure cX6_isFigure 1 (some .boolean) 0 0 0 0 [.int a1] σ (PI fun r τ => Inv τ ∧ Fr MS_X6_isFigure AS_X6_isFigure σ τ ∧ IV r 0 1) := by
  refine Mc.of (L0 := [some (.int a1)]) (by decide) (Nat.le_of_ble_eq_true rfl) rfl ?_
  intro p e s m args below meth c C hr hlk
  have C : Cx p s m args c cX6_isFigure 1 "LeanTower$Reader" := C
  have k0 : (0 : Int32).toInt = 0 := by decide
  have k1 : (1 : Int32).toInt = 1 := by decide
  refine m_iload_n C dX6_isFigure_0 rfl rfl ?_
  refine m_bipush (v := 48) C dX6_isFigure_1 (by decide) ?_
  refine m_icmp_lt (tgt := 16) C dX6_isFigure_3 (by decide) (fun c1 => ?_) (fun c1 => ?_)
  · have f2 : a1.toInt < 48 := by
      have q : _ := c1
      simp only [ti_nle, ti_nlt, ti_le, ti_lt, ti_eq, ti_ne, Classical.not_not, kt_48] at q
      omega
    have b3 : IV a1 (-2147483648) 47 := ⟨by have q1 := (iv_any a1); have q2 := kc_48; omega, by have q1 := (iv_any a1); have q2 := kc_48; omega⟩
    refine m_iconst (v := 0) C dX6_isFigure_16 (by decide) ?_
    exact m_zret C hr rfl hlk (by decide) (by decide) dX6_isFigure_17 ⟨_, rfl, hI, Fr.rf, (iv_wk kc_0 (by decide))⟩
  · have f4 : 48 ≤ a1.toInt := by
      have q : _ := c1
      simp only [ti_nle, ti_nlt, ti_le, ti_lt, ti_eq, ti_ne, Classical.not_not, kt_48] at q
      omega
    have b5 : IV a1 48 2147483647 := ⟨by have q1 := kc_48; have q2 := (iv_any a1); omega, by have q1 := kc_48; have q2 := (iv_any a1); omega⟩
    refine m_iload_n C dX6_isFigure_6 rfl rfl ?_
    refine m_bipush (v := 57) C dX6_isFigure_7 (by decide) ?_
    refine m_icmp_gt (tgt := 16) C dX6_isFigure_9 (by decide) (fun c6 => ?_) (fun c6 => ?_)
    · have f7 : 57 < a1.toInt := by
        have q : _ := c6
        simp only [ti_nle, ti_nlt, ti_le, ti_lt, ti_eq, ti_ne, Classical.not_not, kt_57] at q
        omega
      have b8 : IV a1 58 2147483647 := ⟨by have q1 := kc_57; have q2 := b5; omega, by have q1 := kc_57; have q2 := b5; omega⟩
      refine m_iconst (v := 0) C dX6_isFigure_16 (by decide) ?_
      exact m_zret C hr rfl hlk (by decide) (by decide) dX6_isFigure_17 ⟨_, rfl, hI, Fr.rf, (iv_wk kc_0 (by decide))⟩
    · have f9 : a1.toInt ≤ 57 := by
        have q : _ := c6
        simp only [ti_nle, ti_nlt, ti_le, ti_lt, ti_eq, ti_ne, Classical.not_not, kt_57] at q
        omega
      have b10 : IV a1 48 57 := ⟨by have q1 := b5; have q2 := kc_57; omega, by have q1 := b5; have q2 := kc_57; omega⟩
      refine m_iconst (v := 1) C dX6_isFigure_12 (by decide) ?_
      refine m_goto (tgt := 17) C dX6_isFigure_13 (by decide) ?_
      exact m_zret C hr rfl hlk (by decide) (by decide) dX6_isFigure_17 ⟨_, rfl, hI, Fr.rf, (iv_wk kc_1 (by decide))⟩

abbrev MS_X6_passLetters : List (Nat × Nat) := [(12, 5), (12, 6)]
abbrev AS_X6_passLetters : List Nat := []
set_option maxHeartbeats 4000000 in
set_option maxRecDepth 100000 in
theorem c_X6_passLetters (l : Launch) (G : Gt) (σ : Sg) (hI : Inv σ) : Mc l G yX6_passLetters cX6_passLetters 1 none 1 20 0 0 [.ref (G.1 12 0)] σ (PV fun τ => Inv τ ∧ Fr MS_X6_passLetters AS_X6_passLetters σ τ) := by
  refine Mc.of (L0 := [some (.ref (G.1 12 0))]) (by decide) (Nat.le_of_ble_eq_true rfl) rfl ?_
  intro p e s m args below meth c C hr hlk
  have C : Cx p s m args c cX6_passLetters 1 "LeanTower$Reader" := C
  have k0 : (0 : Int32).toInt = 0 := by decide
  have k1 : (1 : Int32).toInt = 1 := by decide
  have J5 : ∀ (n : Nat) (τ : Sg), Inv τ → Fr MS_X6_passLetters AS_X6_passLetters σ τ → (400 - (gV τ 12 0 5).toInt).toNat < n → MW p l e { frames := 1, cells := 0, slots := 0, locals := 20 } s m args below meth c (MQ below (QP G (PV fun τ => Inv τ ∧ Fr MS_X6_passLetters AS_X6_passLetters σ τ)) args s 0 0 (aG G)) 1 G 0 0 5 [some (.ref (G.1 12 0))] [] τ := by
    intro n
    induction n with
    | zero => intro τ iτ fτ hm; exact absurd hm (Nat.not_lt_zero _)
    | succ n ih5 =>
      intro τ iτ fτ hm5
      have u1 : IV (gV τ 12 0 5) 0 400 := iτ.1 12 0 5
      refine m_aload_n C dX6_passLetters_5 rfl rfl ?_
      refine g_12_5 C q1_45 dX6_passLetters_6 ?_
      refine m_eqs (w := (gV τ 12 0 5)) rfl ?_
      refine m_aload_n C dX6_passLetters_9 rfl rfl ?_
      refine g_12_1 C q1_38 dX6_passLetters_10 ?_
      refine m_topi (fun x2 ex2 => ?_)
      have b3 : IV x2 0 400 := by rw [ex2]; exact iτ.1 12 0 1
      refine m_icmp_ge (tgt := 44) C dX6_passLetters_13 (by decide) (fun c4 => ?_) (fun c4 => ?_)
      · have f5 : x2.toInt ≤ (gV τ 12 0 5).toInt := by
          have q : _ := c4
          simp only [ti_nle, ti_nlt, ti_le, ti_lt, ti_eq, ti_ne, Classical.not_not] at q
          omega
        exact m_vret C hr hlk (by decide) (by decide) dX6_passLetters_44 ⟨rfl, iτ, fτ⟩
      · have f6 : (gV τ 12 0 5).toInt < x2.toInt := by
          have q : _ := c4
          simp only [ti_nle, ti_nlt, ti_le, ti_lt, ti_eq, ti_ne, Classical.not_not] at q
          omega
        have b7 : IV (gV τ 12 0 5) 0 399 := ⟨by have q1 := u1; have q2 := b3; omega, by have q1 := u1; have q2 := b3; omega⟩
        have b8 : IV x2 1 400 := ⟨by have q1 := u1; have q2 := b3; omega, by have q1 := u1; have q2 := b3; omega⟩
        refine m_aload_n C dX6_passLetters_16 rfl rfl ?_
        refine g_12_0 C q1_37 dX6_passLetters_17 ?_
        refine m_aload_n C dX6_passLetters_20 rfl rfl ?_
        refine g_12_5 C q1_45 dX6_passLetters_21 ?_
        refine m_eqs (w := (gV τ 12 0 5)) rfl ?_
        refine al_13 C b7 (by decide) rfl dX6_passLetters_24 ?_
        refine m_topi (fun x9 ex9 => ?_)
        refine m_callS (n := 1) (st := []) C (c_X6_isLetter l G τ (x9) iτ ) q2_69 q2_67 q2_68 q1_2 (by decide +kernel) rfl (by decide) (by decide) rfl (Nat.le_of_ble_eq_true rfl) dX6_passLetters_25 ?_
        rintro _ τ10 ⟨x13, rfl, i11, f12, b14⟩
        have g15 : Fr MS_X6_passLetters AS_X6_passLetters σ τ10 := Fr.call (fτ) f12 (by decide)
        show MW p l e _ s m args below meth c _ 1 G 0 0 28 [some (.ref (G.1 12 0))] [.int x13] τ10
        refine m_if_eq (tgt := 44) C dX6_passLetters_28 (by decide) (fun c17 => ?_) (fun c17 => ?_)
        · have f18 : x13.toInt = 0 := by
            have q : _ := c17
            simp only [ti_nle, ti_nlt, ti_le, ti_lt, ti_eq, ti_ne, Classical.not_not, kt_0] at q
            omega
          have b19 : IV x13 0 0 := ⟨by have q1 := b14; have q2 := kc_0; omega, by have q1 := b14; have q2 := kc_0; omega⟩
          have q20 : (gV τ10 12 0 5).toInt = (gV τ 12 0 5).toInt := congrArg Int32.toInt (show (gV τ10 12 0 5) = (gV τ 12 0 5) from (show gV τ10 12 0 5 = (gV τ 12 0 5) from (f12.1 12 0 (5) (by decide) (by decide)).trans rfl))
          exact m_vret C hr hlk (by decide) (by decide) dX6_passLetters_44 ⟨rfl, i11, g15⟩
        · have f21 : x13.toInt ≠ 0 := by
            have q : _ := c17
            simp only [ti_nle, ti_nlt, ti_le, ti_lt, ti_eq, ti_ne, Classical.not_not, kt_0] at q
            omega
          have b22 : IV x13 1 1 := ⟨by have q1 := b14; have q2 := kc_0; omega, by have q1 := b14; have q2 := kc_0; omega⟩
          refine m_aload_n C dX6_passLetters_31 rfl rfl ?_
          refine m_dup C dX6_passLetters_32 rfl ?_
          refine g_12_5 C q1_45 dX6_passLetters_33 ?_
          refine m_eqs (w := (gV τ 12 0 5)) (show gV τ10 12 0 5 = (gV τ 12 0 5) from (f12.1 12 0 (5) (by decide) (by decide)).trans rfl) ?_
          refine m_iconst (v := 1) C dX6_passLetters_36 (by decide) ?_
          refine m_iadd C dX6_passLetters_37 ?_
          refine m_topi (fun x23 ex23 => ?_)
          have tx23 : x23.toInt = (gV τ 12 0 5).toInt + 1 := by rw [ex23, ti_addv b7 kc_1 (by decide), kt_1]
          have b24 : IV x23 1 400 := by rw [ex23]; exact iv_add b7 kc_1 (by decide)
          refine p_12_5 C q1_45 dX6_passLetters_38 ?_
          refine m_tops (fun τ25 eτ25 => ?_)
          have i26 : Inv τ25 := eτ25 ▸ Inv.put i11 (by decide) (iv_wk b24 (by decide))
          have f27 : Fr MS_X6_passLetters AS_X6_passLetters σ τ25 := eτ25 ▸ Fr.put (g15) (Or.inl (by decide))
          refine m_goto (tgt := 5) C dX6_passLetters_41 (by decide) ?_
          have q28 : (gV τ25 12 0 5).toInt = x23.toInt := congrArg Int32.toInt (show (gV τ25 12 0 5) = x23 from (show gV τ25 12 0 5 = x23 from gV_put eτ25 (gV_self _ _ _ _ _)))
          exact ih5 τ25 i26 f27 (by have q := hm5; omega)
  have u29 : IV (gV σ 12 0 5) 0 400 := hI.1 12 0 5
  refine m_aload_n C dX6_passLetters_0 rfl rfl ?_
  refine m_iconst (v := 1) C dX6_passLetters_1 (by decide) ?_
  refine p_12_6 C q1_46 dX6_passLetters_2 ?_
  refine m_tops (fun τ30 eτ30 => ?_)
  have i31 : Inv τ30 := eτ30 ▸ Inv.putF hI (by decide) rfl
  have f32 : Fr MS_X6_passLetters AS_X6_passLetters σ τ30 := eτ30 ▸ Fr.put (Fr.rf) (Or.inl (by decide))
  have q33 : (gV τ30 12 0 5).toInt = (gV σ 12 0 5).toInt := congrArg Int32.toInt (show (gV τ30 12 0 5) = (gV σ 12 0 5) from (show gV τ30 12 0 5 = (gV σ 12 0 5) from gV_put eτ30 rfl))
  exact J5 ((400 - (gV τ30 12 0 5).toInt).toNat + 1) τ30 i31 f32 (Nat.lt_succ_self _)

abbrev MS_X6_passFigures : List (Nat × Nat) := [(12, 5), (12, 6), (12, 7)]
abbrev AS_X6_passFigures : List Nat := []
set_option maxHeartbeats 4000000 in
set_option maxRecDepth 100000 in
theorem c_X6_passFigures (l : Launch) (G : Gt) (σ : Sg) (hI : Inv σ) : Mc l G yX6_passFigures cX6_passFigures 1 none 1 20 0 0 [.ref (G.1 12 0)] σ (PV fun τ => Inv τ ∧ Fr MS_X6_passFigures AS_X6_passFigures σ τ) := by
  refine Mc.of (L0 := [some (.ref (G.1 12 0))]) (by decide) (Nat.le_of_ble_eq_true rfl) rfl ?_
  intro p e s m args below meth c C hr hlk
  have C : Cx p s m args c cX6_passFigures 1 "LeanTower$Reader" := C
  have k0 : (0 : Int32).toInt = 0 := by decide
  have k1 : (1 : Int32).toInt = 1 := by decide
  have J68 : ∀ (τ : Sg), Inv τ → Fr MS_X6_passFigures AS_X6_passFigures σ τ → MW p l e { frames := 1, cells := 0, slots := 0, locals := 20 } s m args below meth c (MQ below (QP G (PV fun τ => Inv τ ∧ Fr MS_X6_passFigures AS_X6_passFigures σ τ)) args s 0 0 (aG G)) 1 G 0 0 68 [some (.ref (G.1 12 0))] [] τ := by
    intro τ iτ fτ
    have u1 : IV (gV τ 12 0 5) 0 400 := iτ.1 12 0 5
    refine m_aload_n C dX6_passFigures_68 rfl rfl ?_
    refine m_aload_n C dX6_passFigures_69 rfl rfl ?_
    refine g_12_5 C q1_45 dX6_passFigures_70 ?_
    refine m_eqs (w := (gV τ 12 0 5)) rfl ?_
    refine m_aload_n C dX6_passFigures_73 rfl rfl ?_
    refine g_12_4 C q1_44 dX6_passFigures_74 ?_
    refine m_topi (fun x2 ex2 => ?_)
    have b3 : IV x2 0 400 := by rw [ex2]; exact iτ.1 12 0 4
    refine m_isub C dX6_passFigures_77 ?_
    refine m_topi (fun x4 ex4 => ?_)
    have tx4 : x4.toInt = (gV τ 12 0 5).toInt - x2.toInt := by rw [ex4, ti_subv u1 b3 (by decide)]
    have b5 : IV x4 (-400) 400 := by rw [ex4]; exact iv_sub u1 b3 (by decide)
    refine m_iconst (v := 3) C dX6_passFigures_78 (by decide) ?_
    refine m_icmp_gt (tgt := 86) C dX6_passFigures_79 (by decide) (fun c6 => ?_) (fun c6 => ?_)
    · have f7 : 3 < x4.toInt := by
        have q : _ := c6
        simp only [ti_nle, ti_nlt, ti_le, ti_lt, ti_eq, ti_ne, Classical.not_not, kt_3] at q
        omega
      have b8 : IV x4 4 400 := ⟨by have q1 := kc_3; have q2 := b5; omega, by have q1 := kc_3; have q2 := b5; omega⟩
      refine m_iconst (v := 4) C dX6_passFigures_86 (by decide) ?_
      refine p_12_6 C q1_46 dX6_passFigures_87 ?_
      refine m_tops (fun τ9 eτ9 => ?_)
      have i10 : Inv τ9 := eτ9 ▸ Inv.putF iτ (by decide) rfl
      have f11 : Fr MS_X6_passFigures AS_X6_passFigures σ τ9 := eτ9 ▸ Fr.put (fτ) (Or.inl (by decide))
      have q12 : (gV τ9 12 0 5).toInt = (gV τ 12 0 5).toInt := congrArg Int32.toInt (show (gV τ9 12 0 5) = (gV τ 12 0 5) from (show gV τ9 12 0 5 = (gV τ 12 0 5) from gV_put eτ9 rfl))
      exact m_vret C hr hlk (by decide) (by decide) dX6_passFigures_90 ⟨rfl, i10, f11⟩
    · have f13 : x4.toInt ≤ 3 := by
        have q : _ := c6
        simp only [ti_nle, ti_nlt, ti_le, ti_lt, ti_eq, ti_ne, Classical.not_not, kt_3] at q
        omega
      have b14 : IV x4 (-400) 3 := ⟨by have q1 := b5; have q2 := kc_3; omega, by have q1 := b5; have q2 := kc_3; omega⟩
      refine m_iconst (v := 2) C dX6_passFigures_82 (by decide) ?_
      refine m_goto (tgt := 87) C dX6_passFigures_83 (by decide) ?_
      refine p_12_6 C q1_46 dX6_passFigures_87 ?_
      refine m_tops (fun τ15 eτ15 => ?_)
      have i16 : Inv τ15 := eτ15 ▸ Inv.putF iτ (by decide) rfl
      have f17 : Fr MS_X6_passFigures AS_X6_passFigures σ τ15 := eτ15 ▸ Fr.put (fτ) (Or.inl (by decide))
      have q18 : (gV τ15 12 0 5).toInt = (gV τ 12 0 5).toInt := congrArg Int32.toInt (show (gV τ15 12 0 5) = (gV τ 12 0 5) from (show gV τ15 12 0 5 = (gV τ 12 0 5) from gV_put eτ15 rfl))
      exact m_vret C hr hlk (by decide) (by decide) dX6_passFigures_90 ⟨rfl, i16, f17⟩
  have J5 : ∀ (n : Nat) (τ : Sg), Inv τ → Fr MS_X6_passFigures AS_X6_passFigures σ τ → (400 - (gV τ 12 0 5).toInt).toNat < n → MW p l e { frames := 1, cells := 0, slots := 0, locals := 20 } s m args below meth c (MQ below (QP G (PV fun τ => Inv τ ∧ Fr MS_X6_passFigures AS_X6_passFigures σ τ)) args s 0 0 (aG G)) 1 G 0 0 5 [some (.ref (G.1 12 0))] [] τ := by
    intro n
    induction n with
    | zero => intro τ iτ fτ hm; exact absurd hm (Nat.not_lt_zero _)
    | succ n ih5 =>
      intro τ iτ fτ hm5
      have u19 : IV (gV τ 12 0 5) 0 400 := iτ.1 12 0 5
      refine m_aload_n C dX6_passFigures_5 rfl rfl ?_
      refine g_12_5 C q1_45 dX6_passFigures_6 ?_
      refine m_eqs (w := (gV τ 12 0 5)) rfl ?_
      refine m_aload_n C dX6_passFigures_9 rfl rfl ?_
      refine g_12_1 C q1_38 dX6_passFigures_10 ?_
      refine m_topi (fun x20 ex20 => ?_)
      have b21 : IV x20 0 400 := by rw [ex20]; exact iτ.1 12 0 1
      refine m_icmp_ge (tgt := 68) C dX6_passFigures_13 (by decide) (fun c22 => ?_) (fun c22 => ?_)
      · have f23 : x20.toInt ≤ (gV τ 12 0 5).toInt := by
          have q : _ := c22
          simp only [ti_nle, ti_nlt, ti_le, ti_lt, ti_eq, ti_ne, Classical.not_not] at q
          omega
        exact J68 τ iτ fτ
      · have f24 : (gV τ 12 0 5).toInt < x20.toInt := by
          have q : _ := c22
          simp only [ti_nle, ti_nlt, ti_le, ti_lt, ti_eq, ti_ne, Classical.not_not] at q
          omega
        have b25 : IV (gV τ 12 0 5) 0 399 := ⟨by have q1 := u19; have q2 := b21; omega, by have q1 := u19; have q2 := b21; omega⟩
        have b26 : IV x20 1 400 := ⟨by have q1 := u19; have q2 := b21; omega, by have q1 := u19; have q2 := b21; omega⟩
        refine m_aload_n C dX6_passFigures_16 rfl rfl ?_
        refine g_12_0 C q1_37 dX6_passFigures_17 ?_
        refine m_aload_n C dX6_passFigures_20 rfl rfl ?_
        refine g_12_5 C q1_45 dX6_passFigures_21 ?_
        refine m_eqs (w := (gV τ 12 0 5)) rfl ?_
        refine al_13 C b25 (by decide) rfl dX6_passFigures_24 ?_
        refine m_topi (fun x27 ex27 => ?_)
        refine m_callS (n := 1) (st := []) C (c_X6_isFigure l G τ (x27) iτ ) q2_76 q2_74 q2_75 q1_2 (by decide +kernel) rfl (by decide) (by decide) rfl (Nat.le_of_ble_eq_true rfl) dX6_passFigures_25 ?_
        rintro _ τ28 ⟨x31, rfl, i29, f30, b32⟩
        have g33 : Fr MS_X6_passFigures AS_X6_passFigures σ τ28 := Fr.call (fτ) f30 (by decide)
        show MW p l e _ s m args below meth c _ 1 G 0 0 28 [some (.ref (G.1 12 0))] [.int x31] τ28
        refine m_if_eq (tgt := 68) C dX6_passFigures_28 (by decide) (fun c35 => ?_) (fun c35 => ?_)
        · have f36 : x31.toInt = 0 := by
            have q : _ := c35
            simp only [ti_nle, ti_nlt, ti_le, ti_lt, ti_eq, ti_ne, Classical.not_not, kt_0] at q
            omega
          have b37 : IV x31 0 0 := ⟨by have q1 := b32; have q2 := kc_0; omega, by have q1 := b32; have q2 := kc_0; omega⟩
          have q38 : (gV τ28 12 0 5).toInt = (gV τ 12 0 5).toInt := congrArg Int32.toInt (show (gV τ28 12 0 5) = (gV τ 12 0 5) from (show gV τ28 12 0 5 = (gV τ 12 0 5) from (f30.1 12 0 (5) (by decide) (by decide)).trans rfl))
          exact J68 τ28 i29 g33
        · have f39 : x31.toInt ≠ 0 := by
            have q : _ := c35
            simp only [ti_nle, ti_nlt, ti_le, ti_lt, ti_eq, ti_ne, Classical.not_not, kt_0] at q
            omega
          have b40 : IV x31 1 1 := ⟨by have q1 := b32; have q2 := kc_0; omega, by have q1 := b32; have q2 := kc_0; omega⟩
          refine m_aload_n C dX6_passFigures_31 rfl rfl ?_
          refine m_bipush (v := 10) C dX6_passFigures_32 (by decide) ?_
          refine m_aload_n C dX6_passFigures_34 rfl rfl ?_
          refine g_12_7 C q1_47 dX6_passFigures_35 ?_
          refine m_topi (fun x41 ex41 => ?_)
          refine m_imul C dX6_passFigures_38 ?_
          refine m_topi (fun x42 ex42 => ?_)
          refine m_aload_n C dX6_passFigures_39 rfl rfl ?_
          refine g_12_0 C q1_37 dX6_passFigures_40 ?_
          refine m_aload_n C dX6_passFigures_43 rfl rfl ?_
          refine g_12_5 C q1_45 dX6_passFigures_44 ?_
          refine m_eqs (w := (gV τ 12 0 5)) (show gV τ28 12 0 5 = (gV τ 12 0 5) from (f30.1 12 0 (5) (by decide) (by decide)).trans rfl) ?_
          refine al_13 C b25 (by decide) rfl dX6_passFigures_47 ?_
          refine m_eqs (w := x27) (show gV τ28 13 0 ((gV τ 12 0 5).toInt.toNat) = x27 from (f30.1 13 0 (((gV τ 12 0 5).toInt.toNat)) (by simp) (by decide)).trans ex27.symm) ?_
          refine m_iadd C dX6_passFigures_48 ?_
          refine m_topi (fun x43 ex43 => ?_)
          refine m_bipush (v := 48) C dX6_passFigures_49 (by decide) ?_
          refine m_isub C dX6_passFigures_51 ?_
          refine m_topi (fun x44 ex44 => ?_)
          refine p_12_7 C q1_47 dX6_passFigures_52 ?_
          refine m_tops (fun τ45 eτ45 => ?_)
          have i46 : Inv τ45 := eτ45 ▸ Inv.putF i29 (by decide) rfl
          have f47 : Fr MS_X6_passFigures AS_X6_passFigures σ τ45 := eτ45 ▸ Fr.put (g33) (Or.inl (by decide))
          refine m_aload_n C dX6_passFigures_55 rfl rfl ?_
          refine m_dup C dX6_passFigures_56 rfl ?_
          refine g_12_5 C q1_45 dX6_passFigures_57 ?_
          refine m_eqs (w := (gV τ 12 0 5)) (show gV τ45 12 0 5 = (gV τ 12 0 5) from gV_put eτ45 (show gV τ28 12 0 5 = (gV τ 12 0 5) from (f30.1 12 0 (5) (by decide) (by decide)).trans rfl)) ?_
          refine m_iconst (v := 1) C dX6_passFigures_60 (by decide) ?_
          refine m_iadd C dX6_passFigures_61 ?_
          refine m_topi (fun x48 ex48 => ?_)
          have tx48 : x48.toInt = (gV τ 12 0 5).toInt + 1 := by rw [ex48, ti_addv b25 kc_1 (by decide), kt_1]
          have b49 : IV x48 1 400 := by rw [ex48]; exact iv_add b25 kc_1 (by decide)
          refine p_12_5 C q1_45 dX6_passFigures_62 ?_
          refine m_tops (fun τ50 eτ50 => ?_)
          have i51 : Inv τ50 := eτ50 ▸ Inv.put i46 (by decide) (iv_wk b49 (by decide))
          have f52 : Fr MS_X6_passFigures AS_X6_passFigures σ τ50 := eτ50 ▸ Fr.put (f47) (Or.inl (by decide))
          refine m_goto (tgt := 5) C dX6_passFigures_65 (by decide) ?_
          have q53 : (gV τ50 12 0 5).toInt = x48.toInt := congrArg Int32.toInt (show (gV τ50 12 0 5) = x48 from (show gV τ50 12 0 5 = x48 from gV_put eτ50 (gV_self _ _ _ _ _)))
          exact ih5 τ50 i51 f52 (by have q := hm5; omega)
  have u54 : IV (gV σ 12 0 5) 0 400 := hI.1 12 0 5
  refine m_aload_n C dX6_passFigures_0 rfl rfl ?_
  refine m_iconst (v := 0) C dX6_passFigures_1 (by decide) ?_
  refine p_12_7 C q1_47 dX6_passFigures_2 ?_
  refine m_tops (fun τ55 eτ55 => ?_)
  have i56 : Inv τ55 := eτ55 ▸ Inv.putF hI (by decide) rfl
  have f57 : Fr MS_X6_passFigures AS_X6_passFigures σ τ55 := eτ55 ▸ Fr.put (Fr.rf) (Or.inl (by decide))
  have q58 : (gV τ55 12 0 5).toInt = (gV σ 12 0 5).toInt := congrArg Int32.toInt (show (gV τ55 12 0 5) = (gV σ 12 0 5) from (show gV τ55 12 0 5 = (gV σ 12 0 5) from gV_put eτ55 rfl))
  exact J5 ((400 - (gV τ55 12 0 5).toInt).toNat + 1) τ55 i56 f57 (Nat.lt_succ_self _)

abbrev MS_X6_next : List (Nat × Nat) := [(12, 4), (12, 5), (12, 6), (12, 7)]
abbrev AS_X6_next : List Nat := []
set_option maxHeartbeats 4000000 in
set_option maxRecDepth 100000 in
theorem c_X6_next (l : Launch) (G : Gt) (σ : Sg) (hI : Inv σ) : Mc l G yX6_next cX6_next 1 none 2 40 0 0 [.ref (G.1 12 0)] σ (PV fun τ => Inv τ ∧ Fr MS_X6_next AS_X6_next σ τ) := by
  refine Mc.of (L0 := [some (.ref (G.1 12 0))]) (by decide) (Nat.le_of_ble_eq_true rfl) rfl ?_
  intro p e s m args below meth c C hr hlk
  have C : Cx p s m args c cX6_next 1 "LeanTower$Reader" := C
  have k0 : (0 : Int32).toInt = 0 := by decide
  have k1 : (1 : Int32).toInt = 1 := by decide
  have J47 : ∀ (τ : Sg), Inv τ → Fr MS_X6_next AS_X6_next σ τ → MW p l e { frames := 2, cells := 0, slots := 0, locals := 40 } s m args below meth c (MQ below (QP G (PV fun τ => Inv τ ∧ Fr MS_X6_next AS_X6_next σ τ)) args s 0 0 (aG G)) 1 G 0 0 47 [some (.ref (G.1 12 0))] [] τ := by
    intro τ iτ fτ
    have u1 : IV (gV τ 12 0 4) 0 400 := iτ.1 12 0 4
    refine m_aload_n C dX6_next_47 rfl rfl ?_
    refine m_aload_n C dX6_next_48 rfl rfl ?_
    refine g_12_4 C q1_44 dX6_next_49 ?_
    refine m_eqs (w := (gV τ 12 0 4)) rfl ?_
    refine p_12_5 C q1_45 dX6_next_52 ?_
    refine m_tops (fun τ2 eτ2 => ?_)
    have i3 : Inv τ2 := eτ2 ▸ Inv.put iτ (by decide) u1
    have f4 : Fr MS_X6_next AS_X6_next σ τ2 := eτ2 ▸ Fr.put (fτ) (Or.inl (by decide))
    refine m_aload_n C dX6_next_55 rfl rfl ?_
    refine g_12_4 C q1_44 dX6_next_56 ?_
    refine m_eqs (w := (gV τ 12 0 4)) (show gV τ2 12 0 4 = (gV τ 12 0 4) from gV_put eτ2 rfl) ?_
    refine m_aload_n C dX6_next_59 rfl rfl ?_
    refine g_12_1 C q1_38 dX6_next_60 ?_
    refine m_topi (fun x5 ex5 => ?_)
    have b6 : IV x5 0 400 := by rw [ex5]; exact i3.1 12 0 1
    refine m_icmp_lt (tgt := 74) C dX6_next_63 (by decide) (fun c7 => ?_) (fun c7 => ?_)
    · have f8 : (gV τ 12 0 4).toInt < x5.toInt := by
        have q : _ := c7
        simp only [ti_nle, ti_nlt, ti_le, ti_lt, ti_eq, ti_ne, Classical.not_not] at q
        omega
      have b9 : IV (gV τ 12 0 4) 0 399 := ⟨by have q1 := u1; have q2 := b6; omega, by have q1 := u1; have q2 := b6; omega⟩
      have b10 : IV x5 1 400 := ⟨by have q1 := u1; have q2 := b6; omega, by have q1 := u1; have q2 := b6; omega⟩
      refine m_aload_n C dX6_next_74 rfl rfl ?_
      refine g_12_0 C q1_37 dX6_next_75 ?_
      refine m_aload_n C dX6_next_78 rfl rfl ?_
      refine g_12_4 C q1_44 dX6_next_79 ?_
      refine m_eqs (w := (gV τ 12 0 4)) (show gV τ2 12 0 4 = (gV τ 12 0 4) from gV_put eτ2 rfl) ?_
      refine al_13 C b9 (by decide) rfl dX6_next_82 ?_
      refine m_topi (fun x11 ex11 => ?_)
      refine m_callS (n := 1) (st := []) C (c_X6_isLetter l G τ2 (x11) i3 ) q2_69 q2_67 q2_68 q1_2 (by decide +kernel) rfl (by decide) (by decide) rfl (Nat.le_of_ble_eq_true rfl) dX6_next_83 ?_
      rintro _ τ12 ⟨x15, rfl, i13, f14, b16⟩
      have g17 : Fr MS_X6_next AS_X6_next σ τ12 := Fr.call (f4) f14 (by decide)
      show MW p l e _ s m args below meth c _ 1 G 0 0 86 [some (.ref (G.1 12 0))] [.int x15] τ12
      refine m_if_eq (tgt := 96) C dX6_next_86 (by decide) (fun c19 => ?_) (fun c19 => ?_)
      · have f20 : x15.toInt = 0 := by
          have q : _ := c19
          simp only [ti_nle, ti_nlt, ti_le, ti_lt, ti_eq, ti_ne, Classical.not_not, kt_0] at q
          omega
        have b21 : IV x15 0 0 := ⟨by have q1 := b16; have q2 := kc_0; omega, by have q1 := b16; have q2 := kc_0; omega⟩
        refine m_aload_n C dX6_next_96 rfl rfl ?_
        refine g_12_0 C q1_37 dX6_next_97 ?_
        refine m_aload_n C dX6_next_100 rfl rfl ?_
        refine g_12_4 C q1_44 dX6_next_101 ?_
        refine m_eqs (w := (gV τ 12 0 4)) (show gV τ12 12 0 4 = (gV τ 12 0 4) from (f14.1 12 0 (4) (by decide) (by decide)).trans (show gV τ2 12 0 4 = (gV τ 12 0 4) from gV_put eτ2 rfl)) ?_
        refine al_13 C b9 (by decide) rfl dX6_next_104 ?_
        refine m_eqs (w := x11) (show gV τ12 13 0 ((gV τ 12 0 4).toInt.toNat) = x11 from (f14.1 13 0 (((gV τ 12 0 4).toInt.toNat)) (by simp) (by decide)).trans ex11.symm) ?_
        refine m_callS (n := 1) (st := []) C (c_X6_isFigure l G τ12 (x11) i13 ) q2_76 q2_74 q2_75 q1_2 (by decide +kernel) rfl (by decide) (by decide) rfl (Nat.le_of_ble_eq_true rfl) dX6_next_105 ?_
        rintro _ τ22 ⟨x25, rfl, i23, f24, b26⟩
        have g27 : Fr MS_X6_next AS_X6_next σ τ22 := Fr.call (g17) f24 (by decide)
        show MW p l e _ s m args below meth c _ 1 G 0 0 108 [some (.ref (G.1 12 0))] [.int x25] τ22
        refine m_if_eq (tgt := 118) C dX6_next_108 (by decide) (fun c29 => ?_) (fun c29 => ?_)
        · have f30 : x25.toInt = 0 := by
            have q : _ := c29
            simp only [ti_nle, ti_nlt, ti_le, ti_lt, ti_eq, ti_ne, Classical.not_not, kt_0] at q
            omega
          have b31 : IV x25 0 0 := ⟨by have q1 := b26; have q2 := kc_0; omega, by have q1 := b26; have q2 := kc_0; omega⟩
          refine m_aload_n C dX6_next_118 rfl rfl ?_
          refine m_aload_n C dX6_next_119 rfl rfl ?_
          refine g_12_0 C q1_37 dX6_next_120 ?_
          refine m_aload_n C dX6_next_123 rfl rfl ?_
          refine g_12_4 C q1_44 dX6_next_124 ?_
          refine m_eqs (w := (gV τ 12 0 4)) (show gV τ22 12 0 4 = (gV τ 12 0 4) from (f24.1 12 0 (4) (by decide) (by decide)).trans (show gV τ12 12 0 4 = (gV τ 12 0 4) from (f14.1 12 0 (4) (by decide) (by decide)).trans (show gV τ2 12 0 4 = (gV τ 12 0 4) from gV_put eτ2 rfl))) ?_
          refine al_13 C b9 (by decide) rfl dX6_next_127 ?_
          refine m_eqs (w := x11) (show gV τ22 13 0 ((gV τ 12 0 4).toInt.toNat) = x11 from (f24.1 13 0 (((gV τ 12 0 4).toInt.toNat)) (by simp) (by decide)).trans (show gV τ12 13 0 ((gV τ 12 0 4).toInt.toNat) = x11 from (f14.1 13 0 (((gV τ 12 0 4).toInt.toNat)) (by simp) (by decide)).trans ex11.symm)) ?_
          refine m_bipush (v := 59) C dX6_next_128 (by decide) ?_
          refine m_icmp_ne (tgt := 137) C dX6_next_130 (by decide) (fun c32 => ?_) (fun c32 => ?_)
          · have f33 : x11.toInt ≠ 59 := by
              have q : _ := c32
              simp only [ti_nle, ti_nlt, ti_le, ti_lt, ti_eq, ti_ne, Classical.not_not, kt_59] at q
              omega
            refine m_iconst (v := 4) C dX6_next_137 (by decide) ?_
            refine p_12_6 C q1_46 dX6_next_138 ?_
            refine m_tops (fun τ34 eτ34 => ?_)
            have i35 : Inv τ34 := eτ34 ▸ Inv.putF i23 (by decide) rfl
            have f36 : Fr MS_X6_next AS_X6_next σ τ34 := eτ34 ▸ Fr.put (g27) (Or.inl (by decide))
            refine m_aload_n C dX6_next_141 rfl rfl ?_
            refine m_dup C dX6_next_142 rfl ?_
            refine g_12_5 C q1_45 dX6_next_143 ?_
            refine m_eqs (w := (gV τ 12 0 4)) (show gV τ34 12 0 5 = (gV τ 12 0 4) from gV_put eτ34 (show gV τ22 12 0 5 = (gV τ 12 0 4) from (f24.1 12 0 (5) (by decide) (by decide)).trans (show gV τ12 12 0 5 = (gV τ 12 0 4) from (f14.1 12 0 (5) (by decide) (by decide)).trans (show gV τ2 12 0 5 = (gV τ 12 0 4) from gV_put eτ2 (gV_self _ _ _ _ _))))) ?_
            refine m_iconst (v := 1) C dX6_next_146 (by decide) ?_
            refine m_iadd C dX6_next_147 ?_
            refine m_topi (fun x37 ex37 => ?_)
            have tx37 : x37.toInt = (gV τ 12 0 4).toInt + 1 := by rw [ex37, ti_addv b9 kc_1 (by decide), kt_1]
            have b38 : IV x37 1 400 := by rw [ex37]; exact iv_add b9 kc_1 (by decide)
            refine p_12_5 C q1_45 dX6_next_148 ?_
            refine m_tops (fun τ39 eτ39 => ?_)
            have i40 : Inv τ39 := eτ39 ▸ Inv.put i35 (by decide) (iv_wk b38 (by decide))
            have f41 : Fr MS_X6_next AS_X6_next σ τ39 := eτ39 ▸ Fr.put (f36) (Or.inl (by decide))
            have q42 : (gV τ39 12 0 4).toInt = (gV τ 12 0 4).toInt := congrArg Int32.toInt (show (gV τ39 12 0 4) = (gV τ 12 0 4) from (show gV τ39 12 0 4 = (gV τ 12 0 4) from gV_put eτ39 (show gV τ34 12 0 4 = (gV τ 12 0 4) from gV_put eτ34 (show gV τ22 12 0 4 = (gV τ 12 0 4) from (f24.1 12 0 (4) (by decide) (by decide)).trans (show gV τ12 12 0 4 = (gV τ 12 0 4) from (f14.1 12 0 (4) (by decide) (by decide)).trans (show gV τ2 12 0 4 = (gV τ 12 0 4) from gV_put eτ2 rfl))))))
            exact m_vret C hr hlk (by decide) (by decide) dX6_next_151 ⟨rfl, i40, f41⟩
          · have f43 : x11.toInt = 59 := by
              have q : _ := c32
              simp only [ti_nle, ti_nlt, ti_le, ti_lt, ti_eq, ti_ne, Classical.not_not, kt_59] at q
              omega
            have b44 : IV x11 59 59 := ⟨by have q1 := (iv_any x11); have q2 := kc_59; omega, by have q1 := (iv_any x11); have q2 := kc_59; omega⟩
            refine m_iconst (v := 3) C dX6_next_133 (by decide) ?_
            refine m_goto (tgt := 138) C dX6_next_134 (by decide) ?_
            refine p_12_6 C q1_46 dX6_next_138 ?_
            refine m_tops (fun τ45 eτ45 => ?_)
            have i46 : Inv τ45 := eτ45 ▸ Inv.putF i23 (by decide) rfl
            have f47 : Fr MS_X6_next AS_X6_next σ τ45 := eτ45 ▸ Fr.put (g27) (Or.inl (by decide))
            refine m_aload_n C dX6_next_141 rfl rfl ?_
            refine m_dup C dX6_next_142 rfl ?_
            refine g_12_5 C q1_45 dX6_next_143 ?_
            refine m_eqs (w := (gV τ 12 0 4)) (show gV τ45 12 0 5 = (gV τ 12 0 4) from gV_put eτ45 (show gV τ22 12 0 5 = (gV τ 12 0 4) from (f24.1 12 0 (5) (by decide) (by decide)).trans (show gV τ12 12 0 5 = (gV τ 12 0 4) from (f14.1 12 0 (5) (by decide) (by decide)).trans (show gV τ2 12 0 5 = (gV τ 12 0 4) from gV_put eτ2 (gV_self _ _ _ _ _))))) ?_
            refine m_iconst (v := 1) C dX6_next_146 (by decide) ?_
            refine m_iadd C dX6_next_147 ?_
            refine m_topi (fun x48 ex48 => ?_)
            have tx48 : x48.toInt = (gV τ 12 0 4).toInt + 1 := by rw [ex48, ti_addv b9 kc_1 (by decide), kt_1]
            have b49 : IV x48 1 400 := by rw [ex48]; exact iv_add b9 kc_1 (by decide)
            refine p_12_5 C q1_45 dX6_next_148 ?_
            refine m_tops (fun τ50 eτ50 => ?_)
            have i51 : Inv τ50 := eτ50 ▸ Inv.put i46 (by decide) (iv_wk b49 (by decide))
            have f52 : Fr MS_X6_next AS_X6_next σ τ50 := eτ50 ▸ Fr.put (f47) (Or.inl (by decide))
            have q53 : (gV τ50 12 0 4).toInt = (gV τ 12 0 4).toInt := congrArg Int32.toInt (show (gV τ50 12 0 4) = (gV τ 12 0 4) from (show gV τ50 12 0 4 = (gV τ 12 0 4) from gV_put eτ50 (show gV τ45 12 0 4 = (gV τ 12 0 4) from gV_put eτ45 (show gV τ22 12 0 4 = (gV τ 12 0 4) from (f24.1 12 0 (4) (by decide) (by decide)).trans (show gV τ12 12 0 4 = (gV τ 12 0 4) from (f14.1 12 0 (4) (by decide) (by decide)).trans (show gV τ2 12 0 4 = (gV τ 12 0 4) from gV_put eτ2 rfl))))))
            exact m_vret C hr hlk (by decide) (by decide) dX6_next_151 ⟨rfl, i51, f52⟩
        · have f54 : x25.toInt ≠ 0 := by
            have q : _ := c29
            simp only [ti_nle, ti_nlt, ti_le, ti_lt, ti_eq, ti_ne, Classical.not_not, kt_0] at q
            omega
          have b55 : IV x25 1 1 := ⟨by have q1 := b26; have q2 := kc_0; omega, by have q1 := b26; have q2 := kc_0; omega⟩
          refine m_aload_n C dX6_next_111 rfl rfl ?_
          refine m_callV (n := 0) (ci := 5) (st := []) C (c_X6_passFigures l G τ22  i23 ) (by decide) (by decide) rfl rfl rfl q2_80 q2_77 q2_79 q0_5 q1_2 (by decide +kernel) rfl (by decide) (by decide) rfl (Nat.le_of_ble_eq_true rfl) dX6_next_112 ?_
          rintro _ τ56 ⟨rfl, i57, f58⟩
          have g61 : Fr MS_X6_next AS_X6_next σ τ56 := Fr.call (g27) f58 (by decide)
          show MW p l e _ s m args below meth c _ 1 G 0 0 115 [some (.ref (G.1 12 0))] [] τ56
          refine m_goto (tgt := 151) C dX6_next_115 (by decide) ?_
          have q63 : (gV τ56 12 0 4).toInt = (gV τ 12 0 4).toInt := congrArg Int32.toInt (show (gV τ56 12 0 4) = (gV τ 12 0 4) from (show gV τ56 12 0 4 = (gV τ 12 0 4) from (f58.1 12 0 (4) (by decide) (by decide)).trans (show gV τ22 12 0 4 = (gV τ 12 0 4) from (f24.1 12 0 (4) (by decide) (by decide)).trans (show gV τ12 12 0 4 = (gV τ 12 0 4) from (f14.1 12 0 (4) (by decide) (by decide)).trans (show gV τ2 12 0 4 = (gV τ 12 0 4) from gV_put eτ2 rfl)))))
          exact m_vret C hr hlk (by decide) (by decide) dX6_next_151 ⟨rfl, i57, g61⟩
      · have f64 : x15.toInt ≠ 0 := by
          have q : _ := c19
          simp only [ti_nle, ti_nlt, ti_le, ti_lt, ti_eq, ti_ne, Classical.not_not, kt_0] at q
          omega
        have b65 : IV x15 1 1 := ⟨by have q1 := b16; have q2 := kc_0; omega, by have q1 := b16; have q2 := kc_0; omega⟩
        refine m_aload_n C dX6_next_89 rfl rfl ?_
        refine m_callV (n := 0) (ci := 5) (st := []) C (c_X6_passLetters l G τ12  i13 ) (by decide) (by decide) rfl rfl rfl q2_73 q2_70 q2_72 q0_4 q1_2 (by decide +kernel) rfl (by decide) (by decide) rfl (Nat.le_of_ble_eq_true rfl) dX6_next_90 ?_
        rintro _ τ66 ⟨rfl, i67, f68⟩
        have g71 : Fr MS_X6_next AS_X6_next σ τ66 := Fr.call (g17) f68 (by decide)
        show MW p l e _ s m args below meth c _ 1 G 0 0 93 [some (.ref (G.1 12 0))] [] τ66
        refine m_goto (tgt := 151) C dX6_next_93 (by decide) ?_
        have q73 : (gV τ66 12 0 4).toInt = (gV τ 12 0 4).toInt := congrArg Int32.toInt (show (gV τ66 12 0 4) = (gV τ 12 0 4) from (show gV τ66 12 0 4 = (gV τ 12 0 4) from (f68.1 12 0 (4) (by decide) (by decide)).trans (show gV τ12 12 0 4 = (gV τ 12 0 4) from (f14.1 12 0 (4) (by decide) (by decide)).trans (show gV τ2 12 0 4 = (gV τ 12 0 4) from gV_put eτ2 rfl))))
        exact m_vret C hr hlk (by decide) (by decide) dX6_next_151 ⟨rfl, i67, g71⟩
    · have f74 : x5.toInt ≤ (gV τ 12 0 4).toInt := by
        have q : _ := c7
        simp only [ti_nle, ti_nlt, ti_le, ti_lt, ti_eq, ti_ne, Classical.not_not] at q
        omega
      refine m_aload_n C dX6_next_66 rfl rfl ?_
      refine m_iconst (v := 0) C dX6_next_67 (by decide) ?_
      refine p_12_6 C q1_46 dX6_next_68 ?_
      refine m_tops (fun τ75 eτ75 => ?_)
      have i76 : Inv τ75 := eτ75 ▸ Inv.putF i3 (by decide) rfl
      have f77 : Fr MS_X6_next AS_X6_next σ τ75 := eτ75 ▸ Fr.put (f4) (Or.inl (by decide))
      refine m_goto (tgt := 151) C dX6_next_71 (by decide) ?_
      have q78 : (gV τ75 12 0 4).toInt = (gV τ 12 0 4).toInt := congrArg Int32.toInt (show (gV τ75 12 0 4) = (gV τ 12 0 4) from (show gV τ75 12 0 4 = (gV τ 12 0 4) from gV_put eτ75 (show gV τ2 12 0 4 = (gV τ 12 0 4) from gV_put eτ2 rfl)))
      exact m_vret C hr hlk (by decide) (by decide) dX6_next_151 ⟨rfl, i76, f77⟩
  have J8 : ∀ (n : Nat) (τ : Sg), Inv τ → Fr MS_X6_next AS_X6_next σ τ → (400 - (gV τ 12 0 4).toInt).toNat < n → MW p l e { frames := 2, cells := 0, slots := 0, locals := 40 } s m args below meth c (MQ below (QP G (PV fun τ => Inv τ ∧ Fr MS_X6_next AS_X6_next σ τ)) args s 0 0 (aG G)) 1 G 0 0 8 [some (.ref (G.1 12 0))] [] τ := by
    intro n
    induction n with
    | zero => intro τ iτ fτ hm; exact absurd hm (Nat.not_lt_zero _)
    | succ n ih8 =>
      intro τ iτ fτ hm8
      have u79 : IV (gV τ 12 0 4) 0 400 := iτ.1 12 0 4
      refine m_aload_n C dX6_next_8 rfl rfl ?_
      refine g_12_4 C q1_44 dX6_next_9 ?_
      refine m_eqs (w := (gV τ 12 0 4)) rfl ?_
      refine m_aload_n C dX6_next_12 rfl rfl ?_
      refine g_12_1 C q1_38 dX6_next_13 ?_
      refine m_topi (fun x80 ex80 => ?_)
      have b81 : IV x80 0 400 := by rw [ex80]; exact iτ.1 12 0 1
      refine m_icmp_ge (tgt := 47) C dX6_next_16 (by decide) (fun c82 => ?_) (fun c82 => ?_)
      · have f83 : x80.toInt ≤ (gV τ 12 0 4).toInt := by
          have q : _ := c82
          simp only [ti_nle, ti_nlt, ti_le, ti_lt, ti_eq, ti_ne, Classical.not_not] at q
          omega
        exact J47 τ iτ fτ
      · have f84 : (gV τ 12 0 4).toInt < x80.toInt := by
          have q : _ := c82
          simp only [ti_nle, ti_nlt, ti_le, ti_lt, ti_eq, ti_ne, Classical.not_not] at q
          omega
        have b85 : IV (gV τ 12 0 4) 0 399 := ⟨by have q1 := u79; have q2 := b81; omega, by have q1 := u79; have q2 := b81; omega⟩
        have b86 : IV x80 1 400 := ⟨by have q1 := u79; have q2 := b81; omega, by have q1 := u79; have q2 := b81; omega⟩
        refine m_aload_n C dX6_next_19 rfl rfl ?_
        refine g_12_0 C q1_37 dX6_next_20 ?_
        refine m_aload_n C dX6_next_23 rfl rfl ?_
        refine g_12_4 C q1_44 dX6_next_24 ?_
        refine m_eqs (w := (gV τ 12 0 4)) rfl ?_
        refine al_13 C b85 (by decide) rfl dX6_next_27 ?_
        refine m_topi (fun x87 ex87 => ?_)
        refine m_callS (n := 1) (st := []) C (c_X6_isBlank l G τ (x87) iτ ) q2_66 q2_64 q2_65 q1_2 (by decide +kernel) rfl (by decide) (by decide) rfl (Nat.le_of_ble_eq_true rfl) dX6_next_28 ?_
        rintro _ τ88 ⟨x91, rfl, i89, f90, b92⟩
        have g93 : Fr MS_X6_next AS_X6_next σ τ88 := Fr.call (fτ) f90 (by decide)
        show MW p l e _ s m args below meth c _ 1 G 0 0 31 [some (.ref (G.1 12 0))] [.int x91] τ88
        refine m_if_eq (tgt := 47) C dX6_next_31 (by decide) (fun c95 => ?_) (fun c95 => ?_)
        · have f96 : x91.toInt = 0 := by
            have q : _ := c95
            simp only [ti_nle, ti_nlt, ti_le, ti_lt, ti_eq, ti_ne, Classical.not_not, kt_0] at q
            omega
          have b97 : IV x91 0 0 := ⟨by have q1 := b92; have q2 := kc_0; omega, by have q1 := b92; have q2 := kc_0; omega⟩
          have q98 : (gV τ88 12 0 4).toInt = (gV τ 12 0 4).toInt := congrArg Int32.toInt (show (gV τ88 12 0 4) = (gV τ 12 0 4) from (show gV τ88 12 0 4 = (gV τ 12 0 4) from (f90.1 12 0 (4) (by decide) (by decide)).trans rfl))
          exact J47 τ88 i89 g93
        · have f99 : x91.toInt ≠ 0 := by
            have q : _ := c95
            simp only [ti_nle, ti_nlt, ti_le, ti_lt, ti_eq, ti_ne, Classical.not_not, kt_0] at q
            omega
          have b100 : IV x91 1 1 := ⟨by have q1 := b92; have q2 := kc_0; omega, by have q1 := b92; have q2 := kc_0; omega⟩
          refine m_aload_n C dX6_next_34 rfl rfl ?_
          refine m_dup C dX6_next_35 rfl ?_
          refine g_12_4 C q1_44 dX6_next_36 ?_
          refine m_eqs (w := (gV τ 12 0 4)) (show gV τ88 12 0 4 = (gV τ 12 0 4) from (f90.1 12 0 (4) (by decide) (by decide)).trans rfl) ?_
          refine m_iconst (v := 1) C dX6_next_39 (by decide) ?_
          refine m_iadd C dX6_next_40 ?_
          refine m_topi (fun x101 ex101 => ?_)
          have tx101 : x101.toInt = (gV τ 12 0 4).toInt + 1 := by rw [ex101, ti_addv b85 kc_1 (by decide), kt_1]
          have b102 : IV x101 1 400 := by rw [ex101]; exact iv_add b85 kc_1 (by decide)
          refine p_12_4 C q1_44 dX6_next_41 ?_
          refine m_tops (fun τ103 eτ103 => ?_)
          have i104 : Inv τ103 := eτ103 ▸ Inv.put i89 (by decide) (iv_wk b102 (by decide))
          have f105 : Fr MS_X6_next AS_X6_next σ τ103 := eτ103 ▸ Fr.put (g93) (Or.inl (by decide))
          refine m_goto (tgt := 8) C dX6_next_44 (by decide) ?_
          have q106 : (gV τ103 12 0 4).toInt = x101.toInt := congrArg Int32.toInt (show (gV τ103 12 0 4) = x101 from (show gV τ103 12 0 4 = x101 from gV_put eτ103 (gV_self _ _ _ _ _)))
          exact ih8 τ103 i104 f105 (by have q := hm8; omega)
  have u107 : IV (gV σ 12 0 4) 0 400 := hI.1 12 0 4
  refine m_aload_n C dX6_next_0 rfl rfl ?_
  refine m_aload_n C dX6_next_1 rfl rfl ?_
  refine g_12_5 C q1_45 dX6_next_2 ?_
  refine m_topi (fun x108 ex108 => ?_)
  have b109 : IV x108 0 400 := by rw [ex108]; exact hI.1 12 0 5
  refine p_12_4 C q1_44 dX6_next_5 ?_
  refine m_tops (fun τ110 eτ110 => ?_)
  have i111 : Inv τ110 := eτ110 ▸ Inv.put hI (by decide) b109
  have f112 : Fr MS_X6_next AS_X6_next σ τ110 := eτ110 ▸ Fr.put (Fr.rf) (Or.inl (by decide))
  have q113 : (gV τ110 12 0 4).toInt = x108.toInt := congrArg Int32.toInt (show (gV τ110 12 0 4) = x108 from (show gV τ110 12 0 4 = x108 from gV_put eτ110 (gV_self _ _ _ _ _)))
  exact J8 ((400 - (gV τ110 12 0 4).toInt).toNat + 1) τ110 i111 f112 (Nat.lt_succ_self _)

abbrev MS_X6_refuse : List (Nat × Nat) := [(12, 2), (12, 3)]
abbrev AS_X6_refuse : List Nat := []
set_option maxHeartbeats 4000000 in
set_option maxRecDepth 100000 in
theorem c_X6_refuse (l : Launch) (G : Gt) (σ : Sg) (a1 : Int32) (hI : Inv σ) : Mc l G yX6_refuse cX6_refuse 2 (some .boolean) 0 0 0 0 [.ref (G.1 12 0), .int a1] σ (PI fun r τ => Inv τ ∧ Fr MS_X6_refuse AS_X6_refuse σ τ ∧ IV r 0 0) := by
  refine Mc.of (L0 := [some (.ref (G.1 12 0)), some (.int a1)]) (by decide) (Nat.le_of_ble_eq_true rfl) rfl ?_
  intro p e s m args below meth c C hr hlk
  have C : Cx p s m args c cX6_refuse 2 "LeanTower$Reader" := C
  have k0 : (0 : Int32).toInt = 0 := by decide
  have k1 : (1 : Int32).toInt = 1 := by decide
  refine m_aload_n C dX6_refuse_0 rfl rfl ?_
  refine m_iload_n C dX6_refuse_1 rfl rfl ?_
  refine p_12_2 C q1_41 dX6_refuse_2 ?_
  refine m_tops (fun τ1 eτ1 => ?_)
  have i2 : Inv τ1 := eτ1 ▸ Inv.putF hI (by decide) rfl
  have f3 : Fr MS_X6_refuse AS_X6_refuse σ τ1 := eτ1 ▸ Fr.put (Fr.rf) (Or.inl (by decide))
  refine m_aload_n C dX6_refuse_5 rfl rfl ?_
  refine m_aload_n C dX6_refuse_6 rfl rfl ?_
  refine g_12_4 C q1_44 dX6_refuse_7 ?_
  refine m_topi (fun x4 ex4 => ?_)
  have b5 : IV x4 0 400 := by rw [ex4]; exact i2.1 12 0 4
  refine p_12_3 C q1_43 dX6_refuse_10 ?_
  refine m_tops (fun τ6 eτ6 => ?_)
  have i7 : Inv τ6 := eτ6 ▸ Inv.putF i2 (by decide) rfl
  have f8 : Fr MS_X6_refuse AS_X6_refuse σ τ6 := eτ6 ▸ Fr.put (f3) (Or.inl (by decide))
  refine m_iconst (v := 0) C dX6_refuse_13 (by decide) ?_
  exact m_zret C hr rfl hlk (by decide) (by decide) dX6_refuse_14 ⟨_, rfl, i7, f8, kc_0⟩

abbrev MS_X6_number : List (Nat × Nat) := [(12, 2), (12, 3), (12, 4), (12, 5), (12, 6), (12, 7)]
abbrev AS_X6_number : List Nat := []
set_option maxHeartbeats 4000000 in
set_option maxRecDepth 100000 in
theorem c_X6_number (l : Launch) (G : Gt) (σ : Sg) (a1 : Int32) (a2 : Int32) (hI : Inv σ) : Mc l G yX6_number cX6_number 4 (some .int) 3 60 0 0 [.ref (G.1 12 0), .int a1, .int a2] σ (PI fun r τ => Inv τ ∧ Fr MS_X6_number AS_X6_number σ τ ∧ IV r (-2147483648) 2147483647) := by
  refine Mc.of (L0 := [some (.ref (G.1 12 0)), some (.int a1), some (.int a2), none]) (by decide) (Nat.le_of_ble_eq_true rfl) rfl ?_
  intro p e s m args below meth c C hr hlk
  have C : Cx p s m args c cX6_number 4 "LeanTower$Reader" := C
  have k0 : (0 : Int32).toInt = 0 := by decide
  have k1 : (1 : Int32).toInt = 1 := by decide
  have J32 : ∀ (τ : Sg), Inv τ → Fr MS_X6_number AS_X6_number σ τ → IV a1 (-2147483648) 2147483647 → IV a2 (-2147483648) 2147483647 → MW p l e { frames := 3, cells := 0, slots := 0, locals := 60 } s m args below meth c (MQ below (QP G (PI fun r τ => Inv τ ∧ Fr MS_X6_number AS_X6_number σ τ ∧ IV r (-2147483648) 2147483647)) args s 0 0 (aG G)) 4 G 0 0 32 [some (.ref (G.1 12 0)), none, none, none] [] τ := by
    intro τ iτ fτ b_a1 b_a2
    refine m_aload_n C dX6_number_32 rfl rfl ?_
    refine m_iconst (v := 2) C dX6_number_33 (by decide) ?_
    refine m_callV (n := 1) (ci := 5) (st := []) C (c_X6_refuse l G τ (2) iτ ) (by decide) (by decide) rfl rfl rfl q2_141 q2_138 q2_140 q0_8 q1_2 (by decide +kernel) rfl (by decide) (by decide) rfl (Nat.le_of_ble_eq_true rfl) dX6_number_34 ?_
    rintro _ τ1 ⟨x4, rfl, i2, f3, b5⟩
    have g6 : Fr MS_X6_number AS_X6_number σ τ1 := Fr.call (fτ) f3 (by decide)
    show MW p l e _ s m args below meth c _ 4 G 0 0 37 [some (.ref (G.1 12 0)), none, none, none] [.int x4] τ1
    refine m_pop C dX6_number_37 rfl ?_
    refine m_iconst (v := (-1)) C dX6_number_38 (by decide) ?_
    exact m_iret C hr hlk (by decide) (by decide) dX6_number_39 ⟨_, rfl, i2, g6, (iv_wk kc_m1 (by decide))⟩
  refine m_aload_n C dX6_number_0 rfl rfl ?_
  refine g_12_6 C q1_46 dX6_number_1 ?_
  refine m_topi (fun x8 ex8 => ?_)
  refine m_iconst (v := 2) C dX6_number_4 (by decide) ?_
  refine m_icmp_eq (tgt := 16) C dX6_number_5 (by decide) (fun c9 => ?_) (fun c9 => ?_)
  · have f10 : x8.toInt = 2 := by
      have q : _ := c9
      simp only [ti_nle, ti_nlt, ti_le, ti_lt, ti_eq, ti_ne, Classical.not_not, kt_2] at q
      omega
    have b11 : IV x8 2 2 := ⟨by have q1 := (iv_any x8); have q2 := kc_2; omega, by have q1 := (iv_any x8); have q2 := kc_2; omega⟩
    refine m_aload_n C dX6_number_16 rfl rfl ?_
    refine g_12_7 C q1_47 dX6_number_17 ?_
    refine m_topi (fun x12 ex12 => ?_)
    refine m_iload_n C dX6_number_20 rfl rfl ?_
    refine m_icmp_lt (tgt := 32) C dX6_number_21 (by decide) (fun c13 => ?_) (fun c13 => ?_)
    · have f14 : x12.toInt < a1.toInt := by
        have q : _ := c13
        simp only [ti_nle, ti_nlt, ti_le, ti_lt, ti_eq, ti_ne, Classical.not_not] at q
        omega
      have b15 : IV x12 (-2147483648) 2147483646 := ⟨by have q1 := (iv_any x12); have q2 := (iv_any a1); omega, by have q1 := (iv_any x12); have q2 := (iv_any a1); omega⟩
      have b16 : IV a1 (-2147483647) 2147483647 := ⟨by have q1 := (iv_any x12); have q2 := (iv_any a1); omega, by have q1 := (iv_any x12); have q2 := (iv_any a1); omega⟩
      refine m_sub (L1 := [some (.ref (G.1 12 0)), none, none, none]) ⟨rfl, trivial⟩ ?_
      exact J32 σ hI Fr.rf (iv_wk b16 (by decide)) (iv_any a2)
    · have f17 : a1.toInt ≤ x12.toInt := by
        have q : _ := c13
        simp only [ti_nle, ti_nlt, ti_le, ti_lt, ti_eq, ti_ne, Classical.not_not] at q
        omega
      refine m_aload_n C dX6_number_24 rfl rfl ?_
      refine g_12_7 C q1_47 dX6_number_25 ?_
      refine m_eqs (w := x12) ex12.symm ?_
      refine m_iload_n C dX6_number_28 rfl rfl ?_
      refine m_icmp_le (tgt := 40) C dX6_number_29 (by decide) (fun c18 => ?_) (fun c18 => ?_)
      · have f19 : x12.toInt ≤ a2.toInt := by
          have q : _ := c18
          simp only [ti_nle, ti_nlt, ti_le, ti_lt, ti_eq, ti_ne, Classical.not_not] at q
          omega
        refine m_aload_n C dX6_number_40 rfl rfl ?_
        refine g_12_7 C q1_47 dX6_number_41 ?_
        refine m_eqs (w := x12) ex12.symm ?_
        refine m_istore_n (L1 := [some (.ref (G.1 12 0)), some (.int a1), some (.int a2), some (.int x12)]) C dX6_number_44 rfl (by decide) rfl rfl ?_
        refine m_aload_n C dX6_number_45 rfl rfl ?_
        refine m_callV (n := 0) (ci := 5) (st := []) C (c_X6_next l G σ  hI ) (by decide) (by decide) rfl rfl rfl q2_63 q2_60 q2_62 q0_3 q1_2 (by decide +kernel) rfl (by decide) (by decide) rfl (Nat.le_of_ble_eq_true rfl) dX6_number_46 ?_
        rintro _ τ20 ⟨rfl, i21, f22⟩
        have g25 : Fr MS_X6_number AS_X6_number σ τ20 := Fr.call (Fr.rf) f22 (by decide)
        show MW p l e _ s m args below meth c _ 4 G 0 0 49 [some (.ref (G.1 12 0)), some (.int a1), some (.int a2), some (.int x12)] [] τ20
        refine m_iload_n C dX6_number_49 rfl rfl ?_
        exact m_iret C hr hlk (by decide) (by decide) dX6_number_50 ⟨_, rfl, i21, g25, (iv_any x12)⟩
      · have f27 : a2.toInt < x12.toInt := by
          have q : _ := c18
          simp only [ti_nle, ti_nlt, ti_le, ti_lt, ti_eq, ti_ne, Classical.not_not] at q
          omega
        have b28 : IV a2 (-2147483648) 2147483646 := ⟨by have q1 := (iv_any a2); have q2 := (iv_any x12); omega, by have q1 := (iv_any a2); have q2 := (iv_any x12); omega⟩
        have b29 : IV x12 (-2147483647) 2147483647 := ⟨by have q1 := (iv_any a2); have q2 := (iv_any x12); omega, by have q1 := (iv_any a2); have q2 := (iv_any x12); omega⟩
        refine m_sub (L1 := [some (.ref (G.1 12 0)), none, none, none]) ⟨rfl, trivial⟩ ?_
        exact J32 σ hI Fr.rf (iv_any a1) (iv_wk b28 (by decide))
  · have f30 : x8.toInt ≠ 2 := by
      have q : _ := c9
      simp only [ti_nle, ti_nlt, ti_le, ti_lt, ti_eq, ti_ne, Classical.not_not, kt_2] at q
      omega
    refine m_aload_n C dX6_number_8 rfl rfl ?_
    refine m_iconst (v := 1) C dX6_number_9 (by decide) ?_
    refine m_callV (n := 1) (ci := 5) (st := []) C (c_X6_refuse l G σ (1) hI ) (by decide) (by decide) rfl rfl rfl q2_141 q2_138 q2_140 q0_8 q1_2 (by decide +kernel) rfl (by decide) (by decide) rfl (Nat.le_of_ble_eq_true rfl) dX6_number_10 ?_
    rintro _ τ31 ⟨x34, rfl, i32, f33, b35⟩
    have g36 : Fr MS_X6_number AS_X6_number σ τ31 := Fr.call (Fr.rf) f33 (by decide)
    show MW p l e _ s m args below meth c _ 4 G 0 0 13 [some (.ref (G.1 12 0)), some (.int a1), some (.int a2), none] [.int x34] τ31
    refine m_pop C dX6_number_13 rfl ?_
    refine m_iconst (v := (-1)) C dX6_number_14 (by decide) ?_
    exact m_iret C hr hlk (by decide) (by decide) dX6_number_15 ⟨_, rfl, i32, g36, (iv_wk kc_m1 (by decide))⟩

abbrev MS_X6_passSemicolon : List (Nat × Nat) := [(12, 2), (12, 3), (12, 4), (12, 5), (12, 6), (12, 7)]
abbrev AS_X6_passSemicolon : List Nat := []
set_option maxHeartbeats 4000000 in
set_option maxRecDepth 100000 in
theorem c_X6_passSemicolon (l : Launch) (G : Gt) (σ : Sg) (hI : Inv σ) : Mc l G yX6_passSemicolon cX6_passSemicolon 1 (some .boolean) 3 60 0 0 [.ref (G.1 12 0)] σ (PI fun r τ => Inv τ ∧ Fr MS_X6_passSemicolon AS_X6_passSemicolon σ τ ∧ IV r 0 1) := by
  refine Mc.of (L0 := [some (.ref (G.1 12 0))]) (by decide) (Nat.le_of_ble_eq_true rfl) rfl ?_
  intro p e s m args below meth c C hr hlk
  have C : Cx p s m args c cX6_passSemicolon 1 "LeanTower$Reader" := C
  have k0 : (0 : Int32).toInt = 0 := by decide
  have k1 : (1 : Int32).toInt = 1 := by decide
  refine m_aload_n C dX6_passSemicolon_0 rfl rfl ?_
  refine g_12_6 C q1_46 dX6_passSemicolon_1 ?_
  refine m_topi (fun x1 ex1 => ?_)
  refine m_iconst (v := 3) C dX6_passSemicolon_4 (by decide) ?_
  refine m_icmp_eq (tgt := 14) C dX6_passSemicolon_5 (by decide) (fun c2 => ?_) (fun c2 => ?_)
  · have f3 : x1.toInt = 3 := by
      have q : _ := c2
      simp only [ti_nle, ti_nlt, ti_le, ti_lt, ti_eq, ti_ne, Classical.not_not, kt_3] at q
      omega
    have b4 : IV x1 3 3 := ⟨by have q1 := (iv_any x1); have q2 := kc_3; omega, by have q1 := (iv_any x1); have q2 := kc_3; omega⟩
    refine m_aload_n C dX6_passSemicolon_14 rfl rfl ?_
    refine m_callV (n := 0) (ci := 5) (st := []) C (c_X6_next l G σ  hI ) (by decide) (by decide) rfl rfl rfl q2_63 q2_60 q2_62 q0_3 q1_2 (by decide +kernel) rfl (by decide) (by decide) rfl (Nat.le_of_ble_eq_true rfl) dX6_passSemicolon_15 ?_
    rintro _ τ5 ⟨rfl, i6, f7⟩
    have g10 : Fr MS_X6_passSemicolon AS_X6_passSemicolon σ τ5 := Fr.call (Fr.rf) f7 (by decide)
    show MW p l e _ s m args below meth c _ 1 G 0 0 18 [some (.ref (G.1 12 0))] [] τ5
    refine m_iconst (v := 1) C dX6_passSemicolon_18 (by decide) ?_
    exact m_zret C hr rfl hlk (by decide) (by decide) dX6_passSemicolon_19 ⟨_, rfl, i6, g10, (iv_wk kc_1 (by decide))⟩
  · have f12 : x1.toInt ≠ 3 := by
      have q : _ := c2
      simp only [ti_nle, ti_nlt, ti_le, ti_lt, ti_eq, ti_ne, Classical.not_not, kt_3] at q
      omega
    refine m_aload_n C dX6_passSemicolon_8 rfl rfl ?_
    refine m_iconst (v := 1) C dX6_passSemicolon_9 (by decide) ?_
    refine m_callV (n := 1) (ci := 5) (st := []) C (c_X6_refuse l G σ (1) hI ) (by decide) (by decide) rfl rfl rfl q2_141 q2_138 q2_140 q0_8 q1_2 (by decide +kernel) rfl (by decide) (by decide) rfl (Nat.le_of_ble_eq_true rfl) dX6_passSemicolon_10 ?_
    rintro _ τ13 ⟨x16, rfl, i14, f15, b17⟩
    have g18 : Fr MS_X6_passSemicolon AS_X6_passSemicolon σ τ13 := Fr.call (Fr.rf) f15 (by decide)
    show MW p l e _ s m args below meth c _ 1 G 0 0 13 [some (.ref (G.1 12 0))] [.int x16] τ13
    exact m_zret C hr (nar_z (iv_wk b17 (by decide))) hlk (by decide) (by decide) dX6_passSemicolon_13 ⟨_, rfl, i14, g18, (iv_wk b17 (by decide))⟩

abbrev MS_X11_found : List (Nat × Nat) := [(0, 12)]
abbrev AS_X11_found : List Nat := []
set_option maxHeartbeats 4000000 in
set_option maxRecDepth 100000 in
theorem c_X11_found (l : Launch) (G : Gt) (σ : Sg) (a1 : Int32) (hI : Inv σ) (ha1 : IV a1 0 5) : Mc l G yX11_found cX11_found 2 (some .int) 0 0 0 0 [.ref (G.1 0 0), .int a1] σ (PI fun r τ => Inv τ ∧ Fr MS_X11_found AS_X11_found σ τ ∧ IV r (-1000015) (-1000010) ∧ r.toInt = -1000010 - a1.toInt) := by
  refine Mc.of (L0 := [some (.ref (G.1 0 0)), some (.int a1)]) (by decide) (Nat.le_of_ble_eq_true rfl) rfl ?_
  intro p e s m args below meth c C hr hlk
  have C : Cx p s m args c cX11_found 2 "LeanTower" := C
  have k0 : (0 : Int32).toInt = 0 := by decide
  have k1 : (1 : Int32).toInt = 1 := by decide
  refine m_aload_n C dX11_found_0 rfl rfl ?_
  refine m_iload_n C dX11_found_1 rfl rfl ?_
  refine p_0_12 C q1_198 dX11_found_2 ?_
  refine m_tops (fun τ1 eτ1 => ?_)
  have i2 : Inv τ1 := eτ1 ▸ Inv.putF hI (by decide) rfl
  have f3 : Fr MS_X11_found AS_X11_found σ τ1 := eτ1 ▸ Fr.put (Fr.rf) (Or.inl (by decide))
  refine m_ldcw (v := (-1000010)) C dX11_found_5 q1_239 ?_
  refine m_iload_n C dX11_found_8 rfl rfl ?_
  refine m_isub C dX11_found_9 ?_
  refine m_topi (fun x4 ex4 => ?_)
  have tx4 : x4.toInt = -1000010 - a1.toInt := by rw [ex4, ti_subv kc_m1000010 ha1 (by decide), kt_m1000010]
  have b5 : IV x4 (-1000015) (-1000010) := by rw [ex4]; exact iv_sub kc_m1000010 ha1 (by decide)
  exact m_iret C hr hlk (by decide) (by decide) dX11_found_10 ⟨_, rfl, i2, f3, b5, (by omega)⟩

abbrev MS_X11_clean : List (Nat × Nat) := [(0, 12)]
abbrev AS_X11_clean : List Nat := []
set_option maxHeartbeats 4000000 in
set_option maxRecDepth 100000 in
theorem c_X11_clean (l : Launch) (G : Gt) (σ : Sg) (a1 : Int32) (hI : Inv σ) : Mc l G yX11_clean cX11_clean 2 (some .int) 0 0 0 0 [.ref (G.1 0 0), .int a1] σ (PI fun r τ => Inv τ ∧ Fr MS_X11_clean AS_X11_clean σ τ ∧ IV r (-2147483648) 2147483647 ∧ r.toInt = a1.toInt) := by
  refine Mc.of (L0 := [some (.ref (G.1 0 0)), some (.int a1)]) (by decide) (Nat.le_of_ble_eq_true rfl) rfl ?_
  intro p e s m args below meth c C hr hlk
  have C : Cx p s m args c cX11_clean 2 "LeanTower" := C
  have k0 : (0 : Int32).toInt = 0 := by decide
  have k1 : (1 : Int32).toInt = 1 := by decide
  refine m_aload_n C dX11_clean_0 rfl rfl ?_
  refine m_iconst (v := 0) C dX11_clean_1 (by decide) ?_
  refine p_0_12 C q1_198 dX11_clean_2 ?_
  refine m_tops (fun τ1 eτ1 => ?_)
  have i2 : Inv τ1 := eτ1 ▸ Inv.putF hI (by decide) rfl
  have f3 : Fr MS_X11_clean AS_X11_clean σ τ1 := eτ1 ▸ Fr.put (Fr.rf) (Or.inl (by decide))
  refine m_iload_n C dX11_clean_5 rfl rfl ?_
  exact m_iret C hr hlk (by decide) (by decide) dX11_clean_6 ⟨_, rfl, i2, f3, (iv_any a1), (by omega)⟩
