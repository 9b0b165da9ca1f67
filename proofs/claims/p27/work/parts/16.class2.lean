abbrev MS_X8_who : List (Nat × Nat) := []
abbrev AS_X8_who : List Nat := []
set_option maxHeartbeats 4000000 in
set_option maxRecDepth 100000 in
theorem c_X8_who (l : Launch) (G : Gt) (σ : Sg) {j : Nat} (hj : j < 28) (a1 : Int32) (hI : Inv σ) : Mc l G yX8_who cX8_who 2 (some (.object "LeanTower$Person")) 1 21 0 0 [.ref (G.1 1 j), .int a1] σ (PR fun x τ => Inv τ ∧ Fr MS_X8_who AS_X8_who σ τ ∧ (x = .null ∨ ∃ q : Nat, x = .ref q ∧ q ∈ τ.2.2.2.1 ∧ 0 ≤ a1.toInt ∧ a1.toInt ≤ 6)) := by
  refine Mc.of (L0 := [some (.ref (G.1 1 j)), some (.int a1)]) (by decide) (Nat.le_of_ble_eq_true rfl) rfl ?_
  intro p e s m args below meth c C hr hlk
  have C : Cx p s m args c cX8_who 2 "LeanTower$Tower" := C
  have k0 : (0 : Int32).toInt = 0 := by decide
  have k1 : (1 : Int32).toInt = 1 := by decide
  refine m_aload_n C dX8_who_0 rfl rfl ?_
  refine m_iload_n C dX8_who_1 rfl rfl ?_
  refine m_callV (n := 1) (ci := 7) (st := []) C (c_X8_hasPerson l G σ (j := j) hj (a1) hI ) (by decide) hj rfl rfl rfl q3_21 q3_115 q3_19 q3_20 q1_3 (by decide +kernel) rfl (by decide) (by decide) rfl (Nat.le_of_ble_eq_true rfl) dX8_who_2 ?_
  rintro _ τ1 ⟨x4, rfl, i2, f3, b5, h7⟩
  have g6 : Fr MS_X8_who AS_X8_who σ τ1 := Fr.call (Fr.rf) f3 (by decide)
  show MW p l e _ s m args below meth c _ 2 G 0 0 5 [some (.ref (G.1 1 j)), some (.int a1)] [.int x4] τ1
  refine m_if_eq (tgt := 17) C dX8_who_5 (by decide) (fun c8 => ?_) (fun c8 => ?_)
  · have f9 : x4.toInt = 0 := by
      have q : _ := c8
      simp only [ti_nle, ti_nlt, ti_le, ti_lt, ti_eq, ti_ne, Classical.not_not, kt_0] at q
      omega
    have b10 : IV x4 0 0 := ⟨by have q1 := b5; have q2 := kc_0; omega, by have q1 := b5; have q2 := kc_0; omega⟩
    refine m_null C dX8_who_17 ?_
    exact m_aret C hr (Or.inl rfl) hlk (by decide) (by decide) dX8_who_18 ⟨_, rfl, i2, g6, (Or.inl rfl)⟩
  · have f11 : x4.toInt ≠ 0 := by
      have q : _ := c8
      simp only [ti_nle, ti_nlt, ti_le, ti_lt, ti_eq, ti_ne, Classical.not_not, kt_0] at q
      omega
    have b12 : IV x4 1 1 := ⟨by have q1 := b5; have q2 := kc_0; omega, by have q1 := b5; have q2 := kc_0; omega⟩
    have b13 : IV a1 0 6 := ⟨by have q1 := (iv_any a1); omega, by have q1 := (iv_any a1); omega⟩
    refine m_aload_n C dX8_who_8 rfl rfl ?_
    refine g_1_4 C hj q1_86 dX8_who_9 ?_
    refine m_iload_n C dX8_who_12 rfl rfl ?_
    refine al_6 (n := (a1.toInt.toNat)) C hj b13 (by decide) rfl dX8_who_13 (fun h15 => ?_) (fun x14 h15 => ?_)
    · skip
      refine m_goto (tgt := 18) C dX8_who_14 (by decide) ?_
      exact m_aret C hr (Or.inl rfl) hlk (by decide) (by decide) dX8_who_18 ⟨_, rfl, i2, g6, (Or.inl rfl)⟩
    · have v16 : x14 ∈ τ1.2.2.2.1 := i2.2.2.1 _ _ _ h15
      refine m_goto (tgt := 18) C dX8_who_14 (by decide) ?_
      exact m_aret C hr (Or.inr ⟨_, rfl⟩) hlk (by decide) (by decide) dX8_who_18 ⟨_, rfl, i2, g6, (Or.inr ⟨_, rfl, v16, by omega, by omega⟩)⟩

abbrev MS_X8_addPerson : List (Nat × Nat) := [(1, 2)]
abbrev AS_X8_addPerson : List Nat := [2, 3, 6]
set_option maxHeartbeats 4000000 in
set_option maxRecDepth 100000 in
theorem c_X8_addPerson (l : Launch) (G : Gt) (σ : Sg) {j : Nat} (hj : j < 28) (b1 : Nat) (a2 : Int32) (hI : Inv σ) (hb1 : b1 ∈ σ.2.2.2.1) : Mc l G yX8_addPerson cX8_addPerson 3 none 0 0 0 0 [.ref (G.1 1 j), .ref b1, .int a2] σ (PV fun τ => Inv τ ∧ Fr MS_X8_addPerson AS_X8_addPerson σ τ) := by
  refine Mc.of (L0 := [some (.ref (G.1 1 j)), some (.ref b1), some (.int a2)]) (by decide) (Nat.le_of_ble_eq_true rfl) rfl ?_
  intro p e s m args below meth c C hr hlk
  have C : Cx p s m args c cX8_addPerson 3 "LeanTower$Tower" := C
  have k0 : (0 : Int32).toInt = 0 := by decide
  have k1 : (1 : Int32).toInt = 1 := by decide
  refine m_aload_n C dX8_addPerson_0 rfl rfl ?_
  refine g_1_2 C hj q1_80 dX8_addPerson_1 ?_
  refine m_topi (fun x1 ex1 => ?_)
  have b2 : IV x1 0 7 := by rw [ex1]; exact hI.1 1 j 2
  refine m_bipush (v := 7) C dX8_addPerson_4 (by decide) ?_
  refine m_icmp_ge (tgt := 49) C dX8_addPerson_6 (by decide) (fun c3 => ?_) (fun c3 => ?_)
  · have f4 : 7 ≤ x1.toInt := by
      have q : _ := c3
      simp only [ti_nle, ti_nlt, ti_le, ti_lt, ti_eq, ti_ne, Classical.not_not, kt_7] at q
      omega
    have b5 : IV x1 7 7 := ⟨by have q1 := kc_7; have q2 := b2; omega, by have q1 := kc_7; have q2 := b2; omega⟩
    exact m_vret C hr hlk (by decide) (by decide) dX8_addPerson_49 ⟨rfl, hI, Fr.rf⟩
  · have f6 : x1.toInt < 7 := by
      have q : _ := c3
      simp only [ti_nle, ti_nlt, ti_le, ti_lt, ti_eq, ti_ne, Classical.not_not, kt_7] at q
      omega
    have b7 : IV x1 0 6 := ⟨by have q1 := b2; have q2 := kc_7; omega, by have q1 := b2; have q2 := kc_7; omega⟩
    refine m_aload_n C dX8_addPerson_9 rfl rfl ?_
    refine g_1_4 C hj q1_86 dX8_addPerson_10 ?_
    refine m_aload_n C dX8_addPerson_13 rfl rfl ?_
    refine g_1_2 C hj q1_80 dX8_addPerson_14 ?_
    refine m_eqs (w := x1) ex1.symm ?_
    refine m_aload_n C dX8_addPerson_17 rfl rfl ?_
    refine as_6 C hj hI.2.2 hb1 b7 (by decide) dX8_addPerson_18 ?_
    refine m_tops (fun τ8 eτ8 => ?_)
    have i9 : Inv τ8 := eτ8 ▸ Inv.putQ hI (fun _ h => by cases h; exact hb1)
    have f10 : Fr MS_X8_addPerson AS_X8_addPerson σ τ8 := eτ8 ▸ Fr.putQ (Fr.rf) (by decide)
    have v11 : b1 ∈ τ8.2.2.2.1 := by rw [eτ8]; exact hb1
    refine m_aload_n C dX8_addPerson_19 rfl rfl ?_
    refine g_1_5 C hj q1_87 dX8_addPerson_20 ?_
    refine m_aload_n C dX8_addPerson_23 rfl rfl ?_
    refine g_1_2 C hj q1_80 dX8_addPerson_24 ?_
    refine m_eqs (w := x1) (show gV τ8 1 j 2 = x1 from gV_putQ eτ8 ex1.symm) ?_
    refine m_iload_n C dX8_addPerson_27 rfl rfl ?_
    refine as_2 C hj b7 (by decide) rfl dX8_addPerson_28 ?_
    refine m_tops (fun τ12 eτ12 => ?_)
    have i13 : Inv τ12 := eτ12 ▸ Inv.putF i9 (by decide) rfl
    have f14 : Fr MS_X8_addPerson AS_X8_addPerson σ τ12 := eτ12 ▸ Fr.put (f10) (Or.inr (by decide))
    have v15 : b1 ∈ τ12.2.2.2.1 := by rw [eτ12]; exact v11
    refine m_aload_n C dX8_addPerson_29 rfl rfl ?_
    refine g_1_6 C hj q1_89 dX8_addPerson_30 ?_
    refine m_aload_n C dX8_addPerson_33 rfl rfl ?_
    refine g_1_2 C hj q1_80 dX8_addPerson_34 ?_
    refine m_eqs (w := x1) (show gV τ12 1 j 2 = x1 from gV_put eτ12 (show gV τ8 1 j 2 = x1 from gV_putQ eτ8 ex1.symm)) ?_
    refine m_iconst (v := 0) C dX8_addPerson_37 (by decide) ?_
    refine as_3 C hj b7 (by decide) rfl dX8_addPerson_38 ?_
    refine m_tops (fun τ16 eτ16 => ?_)
    have i17 : Inv τ16 := eτ16 ▸ Inv.putF i13 (by decide) rfl
    have f18 : Fr MS_X8_addPerson AS_X8_addPerson σ τ16 := eτ16 ▸ Fr.put (f14) (Or.inr (by decide))
    have v19 : b1 ∈ τ16.2.2.2.1 := by rw [eτ16]; exact v15
    refine m_aload_n C dX8_addPerson_39 rfl rfl ?_
    refine m_dup C dX8_addPerson_40 rfl ?_
    refine g_1_2 C hj q1_80 dX8_addPerson_41 ?_
    refine m_eqs (w := x1) (show gV τ16 1 j 2 = x1 from gV_put eτ16 (show gV τ12 1 j 2 = x1 from gV_put eτ12 (show gV τ8 1 j 2 = x1 from gV_putQ eτ8 ex1.symm))) ?_
    refine m_iconst (v := 1) C dX8_addPerson_44 (by decide) ?_
    refine m_iadd C dX8_addPerson_45 ?_
    refine m_topi (fun x20 ex20 => ?_)
    have tx20 : x20.toInt = x1.toInt + 1 := by rw [ex20, ti_addv b7 kc_1 (by decide), kt_1]
    have b21 : IV x20 1 7 := by rw [ex20]; exact iv_add b7 kc_1 (by decide)
    refine p_1_2 C hj q1_80 dX8_addPerson_46 ?_
    refine m_tops (fun τ22 eτ22 => ?_)
    have i23 : Inv τ22 := eτ22 ▸ Inv.put i17 (by decide) (iv_wk b21 (by decide))
    have f24 : Fr MS_X8_addPerson AS_X8_addPerson σ τ22 := eτ22 ▸ Fr.put (f18) (Or.inl (by decide))
    have v25 : b1 ∈ τ22.2.2.2.1 := by rw [eτ22]; exact v19
    exact m_vret C hr hlk (by decide) (by decide) dX8_addPerson_49 ⟨rfl, i23, f24⟩

abbrev MS_X8_passHalf : List (Nat × Nat) := [(1, 9)]
abbrev AS_X8_passHalf : List Nat := [2, 3]
set_option maxHeartbeats 4000000 in
set_option maxRecDepth 100000 in
theorem c_X8_passHalf (l : Launch) (G : Gt) (σ : Sg) {j : Nat} (hj : j < 28) (hI : Inv σ) : Mc l G yX8_passHalf cX8_passHalf 3 none 2 64 0 0 [.ref (G.1 1 j)] σ (PV fun τ => Inv τ ∧ Fr MS_X8_passHalf AS_X8_passHalf σ τ) := by
  refine Mc.of (L0 := [some (.ref (G.1 1 j)), none, none]) (by decide) (Nat.le_of_ble_eq_true rfl) rfl ?_
  intro p e s m args below meth c C hr hlk
  have C : Cx p s m args c cX8_passHalf 3 "LeanTower$Tower" := C
  have k0 : (0 : Int32).toInt = 0 := by decide
  have k1 : (1 : Int32).toInt = 1 := by decide
  have J12 : ∀ (n : Nat) (τ : Sg) (y1 : Int32), Inv τ → Fr MS_X8_passHalf AS_X8_passHalf σ τ → IV y1 0 7 → (7 - y1.toInt).toNat < n → MW p l e { frames := 2, cells := 0, slots := 0, locals := 64 } s m args below meth c (MQ below (QP G (PV fun τ => Inv τ ∧ Fr MS_X8_passHalf AS_X8_passHalf σ τ)) args s 0 0 (aG G)) 3 G 0 0 12 [some (.ref (G.1 1 j)), some (.int y1), none] [] τ := by
    intro n
    induction n with
    | zero => intro τ y1 iτ fτ b_y1 hm; exact absurd hm (Nat.not_lt_zero _)
    | succ n ih12 =>
      intro τ y1 iτ fτ b_y1 hm12
      refine m_iload_n C dX8_passHalf_12 rfl rfl ?_
      refine m_aload_n C dX8_passHalf_13 rfl rfl ?_
      refine g_1_2 C hj q1_80 dX8_passHalf_14 ?_
      refine m_topi (fun x1 ex1 => ?_)
      have b2 : IV x1 0 7 := by rw [ex1]; exact iτ.1 1 j 2
      refine m_icmp_ge (tgt := 65) C dX8_passHalf_17 (by decide) (fun c3 => ?_) (fun c3 => ?_)
      · have f4 : x1.toInt ≤ y1.toInt := by
          have q : _ := c3
          simp only [ti_nle, ti_nlt, ti_le, ti_lt, ti_eq, ti_ne, Classical.not_not] at q
          omega
        exact m_vret C hr hlk (by decide) (by decide) dX8_passHalf_65 ⟨rfl, iτ, fτ⟩
      · have f5 : y1.toInt < x1.toInt := by
          have q : _ := c3
          simp only [ti_nle, ti_nlt, ti_le, ti_lt, ti_eq, ti_ne, Classical.not_not] at q
          omega
        have b6 : IV y1 0 6 := ⟨by have q1 := b_y1; have q2 := b2; omega, by have q1 := b_y1; have q2 := b2; omega⟩
        have b7 : IV x1 1 7 := ⟨by have q1 := b_y1; have q2 := b2; omega, by have q1 := b_y1; have q2 := b2; omega⟩
        refine m_aload_n C dX8_passHalf_20 rfl rfl ?_
        refine g_1_4 C hj q1_86 dX8_passHalf_21 ?_
        refine m_iload_n C dX8_passHalf_24 rfl rfl ?_
        refine al_6 (n := (y1.toInt.toNat)) C hj b6 (by decide) rfl dX8_passHalf_25 (fun h9 => ?_) (fun x8 h9 => ?_)
        · skip
          refine m_astore_nN (L1 := [some (.ref (G.1 1 j)), some (.int y1), some (.null)]) C dX8_passHalf_26 rfl (by decide) rfl rfl ?_
          refine m_aload_nN C dX8_passHalf_27 rfl rfl ?_
          refine m_ifnullN (tgt := 59) C dX8_passHalf_28 (by decide) ?_
          obtain ⟨x10, ex10⟩ : ∃ y : Int32, y = y1 + 1 := ⟨_, rfl⟩
          have tx10 : x10.toInt = y1.toInt + 1 := by rw [ex10, ti_addv b6 kc_1 (by decide), kt_1]
          have b11 : IV x10 1 7 := by rw [ex10]; exact iv_add b6 kc_1 (by decide)
          refine m_iinc (v := x10) (L1 := [some (.ref (G.1 1 j)), some (.int x10), some (.null)]) C dX8_passHalf_59 rfl (by rw [ex10]; rfl) (by decide) rfl rfl ?_
          refine m_goto (tgt := 12) C dX8_passHalf_62 (by decide) ?_
          refine m_sub (L1 := [some (.ref (G.1 1 j)), some (.int x10), none]) ⟨rfl, ⟨rfl, trivial⟩⟩ ?_
          exact ih12 τ x10 iτ fτ (iv_wk b11 (by decide)) (by have q := hm12; omega)
        · have v12 : x8 ∈ τ.2.2.2.1 := iτ.2.2.1 _ _ _ h9
          refine m_astore_n (L1 := [some (.ref (G.1 1 j)), some (.int y1), some (.ref x8)]) C dX8_passHalf_26 rfl (by decide) rfl rfl ?_
          refine m_aload_n C dX8_passHalf_27 rfl rfl ?_
          refine m_ifnull C dX8_passHalf_28 ?_
          refine m_aload_n C dX8_passHalf_31 rfl rfl ?_
          refine gp_2 C iτ.2.2 v12 q2_187 dX8_passHalf_32 ?_
          refine m_topi (fun x13 ex13 => ?_)
          refine m_if_le (tgt := 59) C dX8_passHalf_35 (by decide) (fun c14 => ?_) (fun c14 => ?_)
          · have f15 : x13.toInt ≤ 0 := by
              have q : _ := c14
              simp only [ti_nle, ti_nlt, ti_le, ti_lt, ti_eq, ti_ne, Classical.not_not, kt_0] at q
              omega
            have b16 : IV x13 (-2147483648) 0 := ⟨by have q1 := (iv_any x13); have q2 := kc_0; omega, by have q1 := (iv_any x13); have q2 := kc_0; omega⟩
            obtain ⟨x17, ex17⟩ : ∃ y : Int32, y = y1 + 1 := ⟨_, rfl⟩
            have tx17 : x17.toInt = y1.toInt + 1 := by rw [ex17, ti_addv b6 kc_1 (by decide), kt_1]
            have b18 : IV x17 1 7 := by rw [ex17]; exact iv_add b6 kc_1 (by decide)
            refine m_iinc (v := x17) (L1 := [some (.ref (G.1 1 j)), some (.int x17), some (.ref x8)]) C dX8_passHalf_59 rfl (by rw [ex17]; rfl) (by decide) rfl rfl ?_
            refine m_goto (tgt := 12) C dX8_passHalf_62 (by decide) ?_
            refine m_sub (L1 := [some (.ref (G.1 1 j)), some (.int x17), none]) ⟨rfl, ⟨rfl, trivial⟩⟩ ?_
            exact ih12 τ x17 iτ fτ (iv_wk b18 (by decide)) (by have q := hm12; omega)
          · have f19 : 0 < x13.toInt := by
              have q : _ := c14
              simp only [ti_nle, ti_nlt, ti_le, ti_lt, ti_eq, ti_ne, Classical.not_not, kt_0] at q
              omega
            have b20 : IV x13 1 2147483647 := ⟨by have q1 := kc_0; have q2 := (iv_any x13); omega, by have q1 := kc_0; have q2 := (iv_any x13); omega⟩
            refine m_aload_n C dX8_passHalf_38 rfl rfl ?_
            refine g_1_9 C hj q1_95 dX8_passHalf_39 ?_
            refine m_topi (fun x21 ex21 => ?_)
            refine m_aload_n C dX8_passHalf_42 rfl rfl ?_
            refine gp_2 C iτ.2.2 v12 q2_187 dX8_passHalf_43 ?_
            refine m_eqs (w := x13) ex13.symm ?_
            refine m_irem C dX8_passHalf_46 (iv_nz b20 (by decide)) ?_
            refine m_topi (fun x22 ex22 => ?_)
            refine m_if_ne (tgt := 59) C dX8_passHalf_47 (by decide) (fun c23 => ?_) (fun c23 => ?_)
            · have f24 : x22.toInt ≠ 0 := by
                have q : _ := c23
                simp only [ti_nle, ti_nlt, ti_le, ti_lt, ti_eq, ti_ne, Classical.not_not, kt_0] at q
                omega
              obtain ⟨x25, ex25⟩ : ∃ y : Int32, y = y1 + 1 := ⟨_, rfl⟩
              have tx25 : x25.toInt = y1.toInt + 1 := by rw [ex25, ti_addv b6 kc_1 (by decide), kt_1]
              have b26 : IV x25 1 7 := by rw [ex25]; exact iv_add b6 kc_1 (by decide)
              refine m_iinc (v := x25) (L1 := [some (.ref (G.1 1 j)), some (.int x25), some (.ref x8)]) C dX8_passHalf_59 rfl (by rw [ex25]; rfl) (by decide) rfl rfl ?_
              refine m_goto (tgt := 12) C dX8_passHalf_62 (by decide) ?_
              refine m_sub (L1 := [some (.ref (G.1 1 j)), some (.int x25), none]) ⟨rfl, ⟨rfl, trivial⟩⟩ ?_
              exact ih12 τ x25 iτ fτ (iv_wk b26 (by decide)) (by have q := hm12; omega)
            · have f27 : x22.toInt = 0 := by
                have q : _ := c23
                simp only [ti_nle, ti_nlt, ti_le, ti_lt, ti_eq, ti_ne, Classical.not_not, kt_0] at q
                omega
              have b28 : IV x22 0 0 := ⟨by have q1 := (iv_any x22); have q2 := kc_0; omega, by have q1 := (iv_any x22); have q2 := kc_0; omega⟩
              refine m_aload_n C dX8_passHalf_50 rfl rfl ?_
              refine m_iload_n C dX8_passHalf_51 rfl rfl ?_
              refine m_aload_n C dX8_passHalf_52 rfl rfl ?_
              refine v_stride (st := [.int y1, .ref (G.1 1 j)]) C q3_48 iτ v12 (by decide) (by decide) (Nat.le_of_ble_eq_true rfl) dX8_passHalf_53 (fun x32 τ29 i30 f31 => ?_)
              have g33 : Fr MS_X8_passHalf AS_X8_passHalf σ τ29 := Fr.call (fτ) f31 (by decide)
              have v34 : x8 ∈ τ29.2.2.2.1 := by rw [f31.2.2 (by decide)]; exact v12
              show MW p l e _ s m args below meth c _ 3 G 0 0 56 [some (.ref (G.1 1 j)), some (.int y1), some (.ref x8)] [.int x32, .int y1, .ref (G.1 1 j)] τ29
              refine m_callV (n := 2) (ci := 7) (st := []) C (c_X8_move l G τ29 (j := j) hj (y1) (x32) i30 b6) (by decide) hj rfl rfl rfl q3_64 q3_61 q3_63 q0_15 q1_3 (by decide +kernel) rfl (by decide) (by decide) rfl (Nat.le_of_ble_eq_true rfl) dX8_passHalf_56 ?_
              rintro _ τ35 ⟨rfl, i36, f37⟩
              have g40 : Fr MS_X8_passHalf AS_X8_passHalf σ τ35 := Fr.call (g33) f37 (by decide)
              have v42 : x8 ∈ τ35.2.2.2.1 := by rw [f37.2.2 (by decide)]; exact v34
              show MW p l e _ s m args below meth c _ 3 G 0 0 59 [some (.ref (G.1 1 j)), some (.int y1), some (.ref x8)] [] τ35
              obtain ⟨x43, ex43⟩ : ∃ y : Int32, y = y1 + 1 := ⟨_, rfl⟩
              have tx43 : x43.toInt = y1.toInt + 1 := by rw [ex43, ti_addv b6 kc_1 (by decide), kt_1]
              have b44 : IV x43 1 7 := by rw [ex43]; exact iv_add b6 kc_1 (by decide)
              refine m_iinc (v := x43) (L1 := [some (.ref (G.1 1 j)), some (.int x43), some (.ref x8)]) C dX8_passHalf_59 rfl (by rw [ex43]; rfl) (by decide) rfl rfl ?_
              refine m_goto (tgt := 12) C dX8_passHalf_62 (by decide) ?_
              refine m_sub (L1 := [some (.ref (G.1 1 j)), some (.int x43), none]) ⟨rfl, ⟨rfl, trivial⟩⟩ ?_
              exact ih12 τ35 x43 i36 g40 (iv_wk b44 (by decide)) (by have q := hm12; omega)
  refine m_aload_n C dX8_passHalf_0 rfl rfl ?_
  refine m_dup C dX8_passHalf_1 rfl ?_
  refine g_1_9 C hj q1_95 dX8_passHalf_2 ?_
  refine m_topi (fun x45 ex45 => ?_)
  refine m_iconst (v := 1) C dX8_passHalf_5 (by decide) ?_
  refine m_iadd C dX8_passHalf_6 ?_
  refine m_topi (fun x46 ex46 => ?_)
  refine p_1_9 C hj q1_95 dX8_passHalf_7 ?_
  refine m_tops (fun τ47 eτ47 => ?_)
  have i48 : Inv τ47 := eτ47 ▸ Inv.putF hI (by decide) rfl
  have f49 : Fr MS_X8_passHalf AS_X8_passHalf σ τ47 := eτ47 ▸ Fr.put (Fr.rf) (Or.inl (by decide))
  refine m_iconst (v := 0) C dX8_passHalf_10 (by decide) ?_
  refine m_istore_n (L1 := [some (.ref (G.1 1 j)), some (.int 0), none]) C dX8_passHalf_11 rfl (by decide) rfl rfl ?_
  exact J12 ((7 - (0 : Int32).toInt).toNat + 1) τ47 0 i48 f49 (iv_wk kc_0 (by decide)) (Nat.lt_succ_self _)

abbrev MS_X8_worstOver : List (Nat × Nat) := [(1, 9)]
abbrev AS_X8_worstOver : List Nat := [2, 3]
set_option maxHeartbeats 4000000 in
set_option maxRecDepth 100000 in
theorem c_X8_worstOver (l : Launch) (G : Gt) (σ : Sg) {j : Nat} (hj : j < 28) (a1 : Int32) (hI : Inv σ) (ha1 : IV a1 0 64) : Mc l G yX8_worstOver cX8_worstOver 4 (some .int) 3 86 0 0 [.ref (G.1 1 j), .int a1] σ (PI fun r τ => Inv τ ∧ Fr MS_X8_worstOver AS_X8_worstOver σ τ ∧ IV r (-2147483648) 2147483647) := by
  refine Mc.of (L0 := [some (.ref (G.1 1 j)), some (.int a1), none, none]) (by decide) (Nat.le_of_ble_eq_true rfl) rfl ?_
  intro p e s m args below meth c C hr hlk
  have C : Cx p s m args c cX8_worstOver 4 "LeanTower$Tower" := C
  have k0 : (0 : Int32).toInt = 0 := by decide
  have k1 : (1 : Int32).toInt = 1 := by decide
  have J9 : ∀ (n : Nat) (τ : Sg) (y2 : Int32) (y3 : Int32), Inv τ → Fr MS_X8_worstOver AS_X8_worstOver σ τ → IV a1 0 64 → IV y2 (-2147483648) 2147483647 → IV y3 0 64 → (64 - y3.toInt).toNat < n → MW p l e { frames := 3, cells := 0, slots := 0, locals := 86 } s m args below meth c (MQ below (QP G (PI fun r τ => Inv τ ∧ Fr MS_X8_worstOver AS_X8_worstOver σ τ ∧ IV r (-2147483648) 2147483647)) args s 0 0 (aG G)) 4 G 0 0 9 [some (.ref (G.1 1 j)), some (.int a1), some (.int y2), some (.int y3)] [] τ := by
    intro n
    induction n with
    | zero => intro τ y2 y3 iτ fτ b_a1 b_y2 b_y3 hm; exact absurd hm (Nat.not_lt_zero _)
    | succ n ih9 =>
      intro τ y2 y3 iτ fτ b_a1 b_y2 b_y3 hm9
      refine m_iload_n C dX8_worstOver_9 rfl rfl ?_
      refine m_iload_n C dX8_worstOver_10 rfl rfl ?_
      refine m_icmp_ge (tgt := 35) C dX8_worstOver_11 (by decide) (fun c1 => ?_) (fun c1 => ?_)
      · have f2 : a1.toInt ≤ y3.toInt := by
          have q : _ := c1
          simp only [ti_nle, ti_nlt, ti_le, ti_lt, ti_eq, ti_ne, Classical.not_not] at q
          omega
        refine m_iload_n C dX8_worstOver_35 rfl rfl ?_
        exact m_iret C hr hlk (by decide) (by decide) dX8_worstOver_36 ⟨_, rfl, iτ, fτ, b_y2⟩
      · have f3 : y3.toInt < a1.toInt := by
          have q : _ := c1
          simp only [ti_nle, ti_nlt, ti_le, ti_lt, ti_eq, ti_ne, Classical.not_not] at q
          omega
        have b4 : IV y3 0 63 := ⟨by have q1 := b_y3; have q2 := b_a1; omega, by have q1 := b_y3; have q2 := b_a1; omega⟩
        have b5 : IV a1 1 64 := ⟨by have q1 := b_y3; have q2 := b_a1; omega, by have q1 := b_y3; have q2 := b_a1; omega⟩
        refine m_aload_n C dX8_worstOver_14 rfl rfl ?_
        refine m_callV (n := 0) (ci := 7) (st := []) C (c_X8_passHalf l G τ (j := j) hj  iτ ) (by decide) hj rfl rfl rfl q3_47 q3_130 q3_45 q3_46 q1_3 (by decide +kernel) rfl (by decide) (by decide) rfl (Nat.le_of_ble_eq_true rfl) dX8_worstOver_15 ?_
        rintro _ τ6 ⟨rfl, i7, f8⟩
        have g11 : Fr MS_X8_worstOver AS_X8_worstOver σ τ6 := Fr.call (fτ) f8 (by decide)
        show MW p l e _ s m args below meth c _ 4 G 0 0 18 [some (.ref (G.1 1 j)), some (.int a1), some (.int y2), some (.int y3)] [] τ6
        refine m_iload_n C dX8_worstOver_18 rfl rfl ?_
        refine m_aload_n C dX8_worstOver_19 rfl rfl ?_
        refine m_bipush (v := 127) C dX8_worstOver_20 (by decide) ?_
        refine m_callV (n := 1) (ci := 7) (st := [.int y2]) C (c_X8_tiltWith l G τ6 (j := j) hj (127) i7 ) (by decide) hj rfl rfl rfl q3_78 q3_75 q3_76 q3_77 q1_3 (by decide +kernel) rfl (by decide) (by decide) rfl (Nat.le_of_ble_eq_true rfl) dX8_worstOver_22 ?_
        rintro _ τ13 ⟨x16, rfl, i14, f15, b17⟩
        have g18 : Fr MS_X8_worstOver AS_X8_worstOver σ τ13 := Fr.call (g11) f15 (by decide)
        show MW p l e _ s m args below meth c _ 4 G 0 0 25 [some (.ref (G.1 1 j)), some (.int a1), some (.int y2), some (.int y3)] [.int x16, .int y2] τ13
        refine m_max (st := []) C q3_91 q3_92 q1_19 q3_93 ⟨by decide, Nat.le_of_ble_eq_true rfl⟩ (by decide) dX8_worstOver_25 (fun x20 ex20 => ?_)
        have tx20 : x20.toInt = max (y2.toInt) (x16.toInt) := by rw [ti_max ex20]
        refine m_istore_n (L1 := [some (.ref (G.1 1 j)), some (.int a1), some (.int x20), some (.int y3)]) C dX8_worstOver_28 rfl (by decide) rfl rfl ?_
        obtain ⟨x21, ex21⟩ : ∃ y : Int32, y = y3 + 1 := ⟨_, rfl⟩
        have tx21 : x21.toInt = y3.toInt + 1 := by rw [ex21, ti_addv b4 kc_1 (by decide), kt_1]
        have b22 : IV x21 1 64 := by rw [ex21]; exact iv_add b4 kc_1 (by decide)
        refine m_iinc (v := x21) (L1 := [some (.ref (G.1 1 j)), some (.int a1), some (.int x20), some (.int x21)]) C dX8_worstOver_29 rfl (by rw [ex21]; rfl) (by decide) rfl rfl ?_
        refine m_goto (tgt := 9) C dX8_worstOver_32 (by decide) ?_
        exact ih9 τ13 x20 x21 i14 g18 (iv_wk b5 (by decide)) (iv_any x20) (iv_wk b22 (by decide)) (by have q := hm9; omega)
  refine m_aload_n C dX8_worstOver_0 rfl rfl ?_
  refine m_bipush (v := 127) C dX8_worstOver_1 (by decide) ?_
  refine m_callV (n := 1) (ci := 7) (st := []) C (c_X8_tiltWith l G σ (j := j) hj (127) hI ) (by decide) hj rfl rfl rfl q3_78 q3_75 q3_76 q3_77 q1_3 (by decide +kernel) rfl (by decide) (by decide) rfl (Nat.le_of_ble_eq_true rfl) dX8_worstOver_3 ?_
  rintro _ τ23 ⟨x26, rfl, i24, f25, b27⟩
  have g28 : Fr MS_X8_worstOver AS_X8_worstOver σ τ23 := Fr.call (Fr.rf) f25 (by decide)
  show MW p l e _ s m args below meth c _ 4 G 0 0 6 [some (.ref (G.1 1 j)), some (.int a1), none, none] [.int x26] τ23
  refine m_istore_n (L1 := [some (.ref (G.1 1 j)), some (.int a1), some (.int x26), none]) C dX8_worstOver_6 rfl (by decide) rfl rfl ?_
  refine m_iconst (v := 0) C dX8_worstOver_7 (by decide) ?_
  refine m_istore_n (L1 := [some (.ref (G.1 1 j)), some (.int a1), some (.int x26), some (.int 0)]) C dX8_worstOver_8 rfl (by decide) rfl rfl ?_
  exact J9 ((64 - (0 : Int32).toInt).toNat + 1) τ23 x26 0 i24 g28 ha1 b27 (iv_wk kc_0 (by decide)) (Nat.lt_succ_self _)

abbrev MS_X8_firstBeyond : List (Nat × Nat) := [(1, 9)]
abbrev AS_X8_firstBeyond : List Nat := [2, 3]
set_option maxHeartbeats 4000000 in
set_option maxRecDepth 100000 in
theorem c_X8_firstBeyond (l : Launch) (G : Gt) (σ : Sg) {j : Nat} (hj : j < 28) (a1 : Int32) (hI : Inv σ) (ha1 : IV a1 0 64) : Mc l G yX8_firstBeyond cX8_firstBeyond 3 (some .int) 4 88 0 0 [.ref (G.1 1 j), .int a1] σ (PI fun r τ => Inv τ ∧ Fr MS_X8_firstBeyond AS_X8_firstBeyond σ τ ∧ IV r (-1000000) 64) := by
  refine Mc.of (L0 := [some (.ref (G.1 1 j)), some (.int a1), none]) (by decide) (Nat.le_of_ble_eq_true rfl) rfl ?_
  intro p e s m args below meth c C hr hlk
  have C : Cx p s m args c cX8_firstBeyond 3 "LeanTower$Tower" := C
  have k0 : (0 : Int32).toInt = 0 := by decide
  have k1 : (1 : Int32).toInt = 1 := by decide
  have J2 : ∀ (n : Nat) (τ : Sg) (y2 : Int32), Inv τ → Fr MS_X8_firstBeyond AS_X8_firstBeyond σ τ → IV a1 0 64 → IV y2 0 65 → (65 - y2.toInt).toNat < n → MW p l e { frames := 4, cells := 0, slots := 0, locals := 88 } s m args below meth c (MQ below (QP G (PI fun r τ => Inv τ ∧ Fr MS_X8_firstBeyond AS_X8_firstBeyond σ τ ∧ IV r (-1000000) 64)) args s 0 0 (aG G)) 3 G 0 0 2 [some (.ref (G.1 1 j)), some (.int a1), some (.int y2)] [] τ := by
    intro n
    induction n with
    | zero => intro τ y2 iτ fτ b_a1 b_y2 hm; exact absurd hm (Nat.not_lt_zero _)
    | succ n ih2 =>
      intro τ y2 iτ fτ b_a1 b_y2 hm2
      refine m_iload_n C dX8_firstBeyond_2 rfl rfl ?_
      refine m_iload_n C dX8_firstBeyond_3 rfl rfl ?_
      refine m_icmp_gt (tgt := 26) C dX8_firstBeyond_4 (by decide) (fun c1 => ?_) (fun c1 => ?_)
      · have f2 : a1.toInt < y2.toInt := by
          have q : _ := c1
          simp only [ti_nle, ti_nlt, ti_le, ti_lt, ti_eq, ti_ne, Classical.not_not] at q
          omega
        have b3 : IV y2 1 65 := ⟨by have q1 := b_a1; have q2 := b_y2; omega, by have q1 := b_a1; have q2 := b_y2; omega⟩
        refine m_ldc (v := (-1000000)) C dX8_firstBeyond_26 q3_90 ?_
        exact m_iret C hr hlk (by decide) (by decide) dX8_firstBeyond_28 ⟨_, rfl, iτ, fτ, (iv_wk kc_m1000000 (by decide))⟩
      · have f4 : y2.toInt ≤ a1.toInt := by
          have q : _ := c1
          simp only [ti_nle, ti_nlt, ti_le, ti_lt, ti_eq, ti_ne, Classical.not_not] at q
          omega
        have b5 : IV y2 0 64 := ⟨by have q1 := b_y2; have q2 := b_a1; omega, by have q1 := b_y2; have q2 := b_a1; omega⟩
        refine m_aload_n C dX8_firstBeyond_7 rfl rfl ?_
        refine m_callV (n := 0) (ci := 7) (st := []) C (c_X8_isBeyond l G τ (j := j) hj  iτ ) (by decide) hj rfl rfl rfl q3_74 q3_135 q3_72 q3_73 q1_3 (by decide +kernel) rfl (by decide) (by decide) rfl (Nat.le_of_ble_eq_true rfl) dX8_firstBeyond_8 ?_
        rintro _ τ6 ⟨x9, rfl, i7, f8, b10⟩
        have g11 : Fr MS_X8_firstBeyond AS_X8_firstBeyond σ τ6 := Fr.call (fτ) f8 (by decide)
        show MW p l e _ s m args below meth c _ 3 G 0 0 11 [some (.ref (G.1 1 j)), some (.int a1), some (.int y2)] [.int x9] τ6
        refine m_if_eq (tgt := 16) C dX8_firstBeyond_11 (by decide) (fun c13 => ?_) (fun c13 => ?_)
        · have f14 : x9.toInt = 0 := by
            have q : _ := c13
            simp only [ti_nle, ti_nlt, ti_le, ti_lt, ti_eq, ti_ne, Classical.not_not, kt_0] at q
            omega
          have b15 : IV x9 0 0 := ⟨by have q1 := b10; have q2 := kc_0; omega, by have q1 := b10; have q2 := kc_0; omega⟩
          refine m_aload_n C dX8_firstBeyond_16 rfl rfl ?_
          refine m_callV (n := 0) (ci := 7) (st := []) C (c_X8_passHalf l G τ6 (j := j) hj  i7 ) (by decide) hj rfl rfl rfl q3_47 q3_130 q3_45 q3_46 q1_3 (by decide +kernel) rfl (by decide) (by decide) rfl (Nat.le_of_ble_eq_true rfl) dX8_firstBeyond_17 ?_
          rintro _ τ16 ⟨rfl, i17, f18⟩
          have g21 : Fr MS_X8_firstBeyond AS_X8_firstBeyond σ τ16 := Fr.call (g11) f18 (by decide)
          show MW p l e _ s m args below meth c _ 3 G 0 0 20 [some (.ref (G.1 1 j)), some (.int a1), some (.int y2)] [] τ16
          obtain ⟨x23, ex23⟩ : ∃ y : Int32, y = y2 + 1 := ⟨_, rfl⟩
          have tx23 : x23.toInt = y2.toInt + 1 := by rw [ex23, ti_addv b5 kc_1 (by decide), kt_1]
          have b24 : IV x23 1 65 := by rw [ex23]; exact iv_add b5 kc_1 (by decide)
          refine m_iinc (v := x23) (L1 := [some (.ref (G.1 1 j)), some (.int a1), some (.int x23)]) C dX8_firstBeyond_20 rfl (by rw [ex23]; rfl) (by decide) rfl rfl ?_
          refine m_goto (tgt := 2) C dX8_firstBeyond_23 (by decide) ?_
          exact ih2 τ16 x23 i17 g21 b_a1 (iv_wk b24 (by decide)) (by have q := hm2; omega)
        · have f25 : x9.toInt ≠ 0 := by
            have q : _ := c13
            simp only [ti_nle, ti_nlt, ti_le, ti_lt, ti_eq, ti_ne, Classical.not_not, kt_0] at q
            omega
          have b26 : IV x9 1 1 := ⟨by have q1 := b10; have q2 := kc_0; omega, by have q1 := b10; have q2 := kc_0; omega⟩
          refine m_iload_n C dX8_firstBeyond_14 rfl rfl ?_
          exact m_iret C hr hlk (by decide) (by decide) dX8_firstBeyond_15 ⟨_, rfl, i7, g11, (iv_wk b5 (by decide))⟩
  refine m_iconst (v := 0) C dX8_firstBeyond_0 (by decide) ?_
  refine m_istore_n (L1 := [some (.ref (G.1 1 j)), some (.int a1), some (.int 0)]) C dX8_firstBeyond_1 rfl (by decide) rfl rfl ?_
  exact J2 ((65 - (0 : Int32).toInt).toNat + 1) σ 0 hI Fr.rf ha1 (iv_wk kc_0 (by decide)) (Nat.lt_succ_self _)

abbrev MS_X6_isWord : List (Nat × Nat) := []
abbrev AS_X6_isWord : List Nat := []
set_option maxHeartbeats 4000000 in
set_option maxRecDepth 100000 in
theorem c_X6_isWord (l : Launch) (G : Gt) (σ : Sg) {w : Nat} (hw8 : w < 8) (hI : Inv σ) : Mc l G yX6_isWord cX6_isWord 3 (some .boolean) 4 85 0 0 [.ref (G.1 12 0), .ref (G.2.2.2.2.1 w)] σ (PI fun r τ => Inv τ ∧ Fr MS_X6_isWord AS_X6_isWord σ τ ∧ IV r 0 1) := by
  refine Mc.of (L0 := [some (.ref (G.1 12 0)), some (.ref (G.2.2.2.2.1 w)), none]) (by decide) (Nat.le_of_ble_eq_true rfl) rfl ?_
  intro p e s m args below meth c C hr hlk
  have C : Cx p s m args c cX6_isWord 3 "LeanTower$Reader" := C
  have k0 : (0 : Int32).toInt = 0 := by decide
  have k1 : (1 : Int32).toInt = 1 := by decide
  have J28 : ∀ (n : Nat) (τ : Sg) (y2 : Int32), Inv τ → Fr MS_X6_isWord AS_X6_isWord σ τ → IV y2 0 7 → ((gV τ 12 0 5).toInt - (gV τ 12 0 4).toInt = (tx_len.getD w 0 : Int)) → (7 - y2.toInt).toNat < n → MW p l e { frames := 4, cells := 0, slots := 0, locals := 85 } s m args below meth c (MQ below (QP G (PI fun r τ => Inv τ ∧ Fr MS_X6_isWord AS_X6_isWord σ τ ∧ IV r 0 1)) args s 0 0 (aG G)) 3 G 0 0 28 [some (.ref (G.1 12 0)), some (.ref (G.2.2.2.2.1 w)), some (.int y2)] [] τ := by
    intro n
    induction n with
    | zero => intro τ y2 iτ fτ b_y2 n1 hm; exact absurd hm (Nat.not_lt_zero _)
    | succ n ih28 =>
      intro τ y2 iτ fτ b_y2 n1 hm28
      have u2 : IV (gV τ 12 0 4) 0 400 := iτ.1 12 0 4
      have u3 : IV (gV τ 12 0 5) 0 400 := iτ.1 12 0 5
      refine m_iload_n C dX6_isWord_28 rfl rfl ?_
      refine m_aload_n C dX6_isWord_29 rfl rfl ?_
      refine m_callK (n := 0) (w := w) (st := [.int y2]) C (c_J0_length_8abf5 l G τ (w := w) hw8  iτ ) hw8 rfl q2_93 q2_90 q2_91 q2_92 q1_9 (by decide +kernel) rfl (by decide) (by decide) rfl (Nat.le_of_ble_eq_true rfl) dX6_isWord_30 ?_
      rintro _ τ4 ⟨x7, rfl, i5, f6, b8, h10⟩
      have g9 : Fr MS_X6_isWord AS_X6_isWord σ τ4 := Fr.call (fτ) f6 (by decide)
      have q11 : (gV τ4 12 0 4).toInt = (gV τ 12 0 4).toInt := congrArg Int32.toInt (show (gV τ4 12 0 4) = (gV τ 12 0 4) from (show gV τ4 12 0 4 = (gV τ 12 0 4) from (f6.1 12 0 (4) (by decide) (by decide)).trans rfl))
      have q12 : (gV τ4 12 0 5).toInt = (gV τ 12 0 5).toInt := congrArg Int32.toInt (show (gV τ4 12 0 5) = (gV τ 12 0 5) from (show gV τ4 12 0 5 = (gV τ 12 0 5) from (f6.1 12 0 (5) (by decide) (by decide)).trans rfl))
      show MW p l e _ s m args below meth c _ 3 G 0 0 33 [some (.ref (G.1 12 0)), some (.ref (G.2.2.2.2.1 w)), some (.int y2)] [.int x7, .int y2] τ4
      refine m_icmp_ge (tgt := 63) C dX6_isWord_33 (by decide) (fun c13 => ?_) (fun c13 => ?_)
      · have f14 : x7.toInt ≤ y2.toInt := by
          have q : _ := c13
          simp only [ti_nle, ti_nlt, ti_le, ti_lt, ti_eq, ti_ne, Classical.not_not] at q
          omega
        have b15 : IV y2 3 7 := ⟨by have q1 := b8; have q2 := b_y2; omega, by have q1 := b8; have q2 := b_y2; omega⟩
        refine m_iconst (v := 1) C dX6_isWord_63 (by decide) ?_
        exact m_zret C hr rfl hlk (by decide) (by decide) dX6_isWord_64 ⟨_, rfl, i5, g9, (iv_wk kc_1 (by decide))⟩
      · have f16 : y2.toInt < x7.toInt := by
          have q : _ := c13
          simp only [ti_nle, ti_nlt, ti_le, ti_lt, ti_eq, ti_ne, Classical.not_not] at q
          omega
        have b17 : IV y2 0 6 := ⟨by have q1 := b_y2; have q2 := b8; omega, by have q1 := b_y2; have q2 := b8; omega⟩
        refine m_aload_n C dX6_isWord_36 rfl rfl ?_
        refine g_12_0 C q1_37 dX6_isWord_37 ?_
        refine m_aload_n C dX6_isWord_40 rfl rfl ?_
        refine g_12_4 C q1_44 dX6_isWord_41 ?_
        refine m_eqs (w := (gV τ 12 0 4)) (show gV τ4 12 0 4 = (gV τ 12 0 4) from (f6.1 12 0 (4) (by decide) (by decide)).trans rfl) ?_
        refine m_iload_n C dX6_isWord_44 rfl rfl ?_
        refine m_iadd C dX6_isWord_45 ?_
        refine m_topi (fun x18 ex18 => ?_)
        have tx18 : x18.toInt = (gV τ 12 0 4).toInt + y2.toInt := by rw [ex18, ti_addv u2 b17 (by decide)]
        have b19 : IV x18 0 406 := by rw [ex18]; exact iv_add u2 b17 (by decide)
        have b20 : IV x18 0 399 := ⟨by have q1 := b19; omega, by have q1 := b19; omega⟩
        refine al_13 C b20 (by decide) rfl dX6_isWord_46 ?_
        refine m_topi (fun x21 ex21 => ?_)
        refine m_aload_n C dX6_isWord_47 rfl rfl ?_
        refine m_iload_n C dX6_isWord_48 rfl rfl ?_
        refine m_callK (n := 1) (w := w) (st := [.int x21]) C (c_J0_charAt_5068e l G τ4 (w := w) hw8 (y2) i5 b17 (by omega)) hw8 rfl q2_103 q2_100 q2_101 q2_102 q1_9 (by decide +kernel) rfl (by decide) (by decide) rfl (Nat.le_of_ble_eq_true rfl) dX6_isWord_49 ?_
        rintro _ τ22 ⟨x25, rfl, i23, f24, b26⟩
        have g27 : Fr MS_X6_isWord AS_X6_isWord σ τ22 := Fr.call (g9) f24 (by decide)
        show MW p l e _ s m args below meth c _ 3 G 0 0 52 [some (.ref (G.1 12 0)), some (.ref (G.2.2.2.2.1 w)), some (.int y2)] [.int x25, .int x21] τ22
        refine m_icmp_eq (tgt := 57) C dX6_isWord_52 (by decide) (fun c29 => ?_) (fun c29 => ?_)
        · have f30 : x21.toInt = x25.toInt := by
            have q : _ := c29
            simp only [ti_nle, ti_nlt, ti_le, ti_lt, ti_eq, ti_ne, Classical.not_not] at q
            omega
          obtain ⟨x31, ex31⟩ : ∃ y : Int32, y = y2 + 1 := ⟨_, rfl⟩
          have tx31 : x31.toInt = y2.toInt + 1 := by rw [ex31, ti_addv b17 kc_1 (by decide), kt_1]
          have b32 : IV x31 1 7 := by rw [ex31]; exact iv_add b17 kc_1 (by decide)
          refine m_iinc (v := x31) (L1 := [some (.ref (G.1 12 0)), some (.ref (G.2.2.2.2.1 w)), some (.int x31)]) C dX6_isWord_57 rfl (by rw [ex31]; rfl) (by decide) rfl rfl ?_
          refine m_goto (tgt := 28) C dX6_isWord_60 (by decide) ?_
          have q33 : (gV τ22 12 0 4).toInt = (gV τ 12 0 4).toInt := congrArg Int32.toInt (show (gV τ22 12 0 4) = (gV τ 12 0 4) from (show gV τ22 12 0 4 = (gV τ 12 0 4) from (f24.1 12 0 (4) (by decide) (by decide)).trans (show gV τ4 12 0 4 = (gV τ 12 0 4) from (f6.1 12 0 (4) (by decide) (by decide)).trans rfl)))
          have q34 : (gV τ22 12 0 5).toInt = (gV τ 12 0 5).toInt := congrArg Int32.toInt (show (gV τ22 12 0 5) = (gV τ 12 0 5) from (show gV τ22 12 0 5 = (gV τ 12 0 5) from (f24.1 12 0 (5) (by decide) (by decide)).trans (show gV τ4 12 0 5 = (gV τ 12 0 5) from (f6.1 12 0 (5) (by decide) (by decide)).trans rfl)))
          exact ih28 τ22 x31 i23 g27 (iv_wk b32 (by decide)) (by omega) (by have q := hm28; omega)
        · have f35 : x21.toInt ≠ x25.toInt := by
            have q : _ := c29
            simp only [ti_nle, ti_nlt, ti_le, ti_lt, ti_eq, ti_ne, Classical.not_not] at q
            omega
          refine m_iconst (v := 0) C dX6_isWord_55 (by decide) ?_
          have q36 : (gV τ22 12 0 4).toInt = (gV τ 12 0 4).toInt := congrArg Int32.toInt (show (gV τ22 12 0 4) = (gV τ 12 0 4) from (show gV τ22 12 0 4 = (gV τ 12 0 4) from (f24.1 12 0 (4) (by decide) (by decide)).trans (show gV τ4 12 0 4 = (gV τ 12 0 4) from (f6.1 12 0 (4) (by decide) (by decide)).trans rfl)))
          have q37 : (gV τ22 12 0 5).toInt = (gV τ 12 0 5).toInt := congrArg Int32.toInt (show (gV τ22 12 0 5) = (gV τ 12 0 5) from (show gV τ22 12 0 5 = (gV τ 12 0 5) from (f24.1 12 0 (5) (by decide) (by decide)).trans (show gV τ4 12 0 5 = (gV τ 12 0 5) from (f6.1 12 0 (5) (by decide) (by decide)).trans rfl)))
          exact m_zret C hr rfl hlk (by decide) (by decide) dX6_isWord_56 ⟨_, rfl, i23, g27, (iv_wk kc_0 (by decide))⟩
  have u38 : IV (gV σ 12 0 4) 0 400 := hI.1 12 0 4
  have u39 : IV (gV σ 12 0 5) 0 400 := hI.1 12 0 5
  refine m_aload_n C dX6_isWord_0 rfl rfl ?_
  refine g_12_6 C q1_46 dX6_isWord_1 ?_
  refine m_topi (fun x40 ex40 => ?_)
  refine m_iconst (v := 1) C dX6_isWord_4 (by decide) ?_
  refine m_icmp_ne (tgt := 24) C dX6_isWord_5 (by decide) (fun c41 => ?_) (fun c41 => ?_)
  · have f42 : x40.toInt ≠ 1 := by
      have q : _ := c41
      simp only [ti_nle, ti_nlt, ti_le, ti_lt, ti_eq, ti_ne, Classical.not_not, kt_1] at q
      omega
    refine m_iconst (v := 0) C dX6_isWord_24 (by decide) ?_
    exact m_zret C hr rfl hlk (by decide) (by decide) dX6_isWord_25 ⟨_, rfl, hI, Fr.rf, (iv_wk kc_0 (by decide))⟩
  · have f43 : x40.toInt = 1 := by
      have q : _ := c41
      simp only [ti_nle, ti_nlt, ti_le, ti_lt, ti_eq, ti_ne, Classical.not_not, kt_1] at q
      omega
    have b44 : IV x40 1 1 := ⟨by have q1 := (iv_any x40); have q2 := kc_1; omega, by have q1 := (iv_any x40); have q2 := kc_1; omega⟩
    refine m_aload_n C dX6_isWord_8 rfl rfl ?_
    refine g_12_5 C q1_45 dX6_isWord_9 ?_
    refine m_eqs (w := (gV σ 12 0 5)) rfl ?_
    refine m_aload_n C dX6_isWord_12 rfl rfl ?_
    refine g_12_4 C q1_44 dX6_isWord_13 ?_
    refine m_eqs (w := (gV σ 12 0 4)) rfl ?_
    refine m_isub C dX6_isWord_16 ?_
    refine m_topi (fun x45 ex45 => ?_)
    have tx45 : x45.toInt = (gV σ 12 0 5).toInt - (gV σ 12 0 4).toInt := by rw [ex45, ti_subv u39 u38 (by decide)]
    have b46 : IV x45 (-400) 400 := by rw [ex45]; exact iv_sub u39 u38 (by decide)
    refine m_aload_n C dX6_isWord_17 rfl rfl ?_
    refine m_callK (n := 0) (w := w) (st := [.int x45]) C (c_J0_length_8abf5 l G σ (w := w) hw8  hI ) hw8 rfl q2_93 q2_90 q2_91 q2_92 q1_9 (by decide +kernel) rfl (by decide) (by decide) rfl (Nat.le_of_ble_eq_true rfl) dX6_isWord_18 ?_
    rintro _ τ47 ⟨x50, rfl, i48, f49, b51, h53⟩
    have g52 : Fr MS_X6_isWord AS_X6_isWord σ τ47 := Fr.call (Fr.rf) f49 (by decide)
    have q54 : (gV τ47 12 0 4).toInt = (gV σ 12 0 4).toInt := congrArg Int32.toInt (show (gV τ47 12 0 4) = (gV σ 12 0 4) from (show gV τ47 12 0 4 = (gV σ 12 0 4) from (f49.1 12 0 (4) (by decide) (by decide)).trans rfl))
    have q55 : (gV τ47 12 0 5).toInt = (gV σ 12 0 5).toInt := congrArg Int32.toInt (show (gV τ47 12 0 5) = (gV σ 12 0 5) from (show gV τ47 12 0 5 = (gV σ 12 0 5) from (f49.1 12 0 (5) (by decide) (by decide)).trans rfl))
    show MW p l e _ s m args below meth c _ 3 G 0 0 21 [some (.ref (G.1 12 0)), some (.ref (G.2.2.2.2.1 w)), none] [.int x50, .int x45] τ47
    refine m_icmp_eq (tgt := 26) C dX6_isWord_21 (by decide) (fun c56 => ?_) (fun c56 => ?_)
    · have f57 : x45.toInt = x50.toInt := by
        have q : _ := c56
        simp only [ti_nle, ti_nlt, ti_le, ti_lt, ti_eq, ti_ne, Classical.not_not] at q
        omega
      have b58 : IV x45 3 7 := ⟨by have q1 := b46; have q2 := b51; omega, by have q1 := b46; have q2 := b51; omega⟩
      refine m_iconst (v := 0) C dX6_isWord_26 (by decide) ?_
      refine m_istore_n (L1 := [some (.ref (G.1 12 0)), some (.ref (G.2.2.2.2.1 w)), some (.int 0)]) C dX6_isWord_27 rfl (by decide) rfl rfl ?_
      exact J28 ((7 - (0 : Int32).toInt).toNat + 1) τ47 0 i48 g52 (iv_wk kc_0 (by decide)) (by omega) (Nat.lt_succ_self _)
    · have f59 : x45.toInt ≠ x50.toInt := by
        have q : _ := c56
        simp only [ti_nle, ti_nlt, ti_le, ti_lt, ti_eq, ti_ne, Classical.not_not] at q
        omega
      refine m_iconst (v := 0) C dX6_isWord_24 (by decide) ?_
      exact m_zret C hr rfl hlk (by decide) (by decide) dX6_isWord_25 ⟨_, rfl, i48, g52, (iv_wk kc_0 (by decide))⟩

abbrev MS_X6_kindAtHand : List (Nat × Nat) := []
abbrev AS_X6_kindAtHand : List Nat := []
set_option maxHeartbeats 4000000 in
set_option maxRecDepth 100000 in
theorem c_X6_kindAtHand (l : Launch) (G : Gt) (σ : Sg) (hI : Inv σ) : Mc l G yX6_kindAtHand cX6_kindAtHand 1 (some .int) 5 107 0 0 [.ref (G.1 12 0)] σ (PI fun r τ => Inv τ ∧ Fr MS_X6_kindAtHand AS_X6_kindAtHand σ τ ∧ IV r 0 5) := by
  refine Mc.of (L0 := [some (.ref (G.1 12 0))]) (by decide) (Nat.le_of_ble_eq_true rfl) rfl ?_
  intro p e s m args below meth c C hr hlk
  have C : Cx p s m args c cX6_kindAtHand 1 "LeanTower$Reader" := C
  have k0 : (0 : Int32).toInt = 0 := by decide
  have k1 : (1 : Int32).toInt = 1 := by decide
  refine m_aload_n C dX6_kindAtHand_0 rfl rfl ?_
  refine s_ldc (w := 2) (tx := "") C rfl (by decide) rfl dX6_kindAtHand_1 ?_
  refine m_callV (n := 1) (ci := 5) (st := []) C (c_X6_isWord l G σ (w := 2) (by decide) hI ) (by decide) (by decide) rfl rfl rfl q2_89 q2_86 q2_88 q0_7 q1_2 (by decide +kernel) rfl (by decide) (by decide) rfl (Nat.le_of_ble_eq_true rfl) dX6_kindAtHand_3 ?_
  rintro _ τ1 ⟨x4, rfl, i2, f3, b5⟩
  have g6 : Fr MS_X6_kindAtHand AS_X6_kindAtHand σ τ1 := Fr.call (Fr.rf) f3 (by decide)
  show MW p l e _ s m args below meth c _ 1 G 0 0 6 [some (.ref (G.1 12 0))] [.int x4] τ1
  refine m_if_eq (tgt := 11) C dX6_kindAtHand_6 (by decide) (fun c8 => ?_) (fun c8 => ?_)
  · have f9 : x4.toInt = 0 := by
      have q : _ := c8
      simp only [ti_nle, ti_nlt, ti_le, ti_lt, ti_eq, ti_ne, Classical.not_not, kt_0] at q
      omega
    have b10 : IV x4 0 0 := ⟨by have q1 := b5; have q2 := kc_0; omega, by have q1 := b5; have q2 := kc_0; omega⟩
    refine m_aload_n C dX6_kindAtHand_11 rfl rfl ?_
    refine s_ldc (w := 3) (tx := "") C rfl (by decide) rfl dX6_kindAtHand_12 ?_
    refine m_callV (n := 1) (ci := 5) (st := []) C (c_X6_isWord l G τ1 (w := 3) (by decide) i2 ) (by decide) (by decide) rfl rfl rfl q2_89 q2_86 q2_88 q0_7 q1_2 (by decide +kernel) rfl (by decide) (by decide) rfl (Nat.le_of_ble_eq_true rfl) dX6_kindAtHand_14 ?_
    rintro _ τ11 ⟨x14, rfl, i12, f13, b15⟩
    have g16 : Fr MS_X6_kindAtHand AS_X6_kindAtHand σ τ11 := Fr.call (g6) f13 (by decide)
    show MW p l e _ s m args below meth c _ 1 G 0 0 17 [some (.ref (G.1 12 0))] [.int x14] τ11
    refine m_if_eq (tgt := 22) C dX6_kindAtHand_17 (by decide) (fun c18 => ?_) (fun c18 => ?_)
    · have f19 : x14.toInt = 0 := by
        have q : _ := c18
        simp only [ti_nle, ti_nlt, ti_le, ti_lt, ti_eq, ti_ne, Classical.not_not, kt_0] at q
        omega
      have b20 : IV x14 0 0 := ⟨by have q1 := b15; have q2 := kc_0; omega, by have q1 := b15; have q2 := kc_0; omega⟩
      refine m_aload_n C dX6_kindAtHand_22 rfl rfl ?_
      refine s_ldc (w := 4) (tx := "") C rfl (by decide) rfl dX6_kindAtHand_23 ?_
      refine m_callV (n := 1) (ci := 5) (st := []) C (c_X6_isWord l G τ11 (w := 4) (by decide) i12 ) (by decide) (by decide) rfl rfl rfl q2_89 q2_86 q2_88 q0_7 q1_2 (by decide +kernel) rfl (by decide) (by decide) rfl (Nat.le_of_ble_eq_true rfl) dX6_kindAtHand_25 ?_
      rintro _ τ21 ⟨x24, rfl, i22, f23, b25⟩
      have g26 : Fr MS_X6_kindAtHand AS_X6_kindAtHand σ τ21 := Fr.call (g16) f23 (by decide)
      show MW p l e _ s m args below meth c _ 1 G 0 0 28 [some (.ref (G.1 12 0))] [.int x24] τ21
      refine m_if_eq (tgt := 33) C dX6_kindAtHand_28 (by decide) (fun c28 => ?_) (fun c28 => ?_)
      · have f29 : x24.toInt = 0 := by
          have q : _ := c28
          simp only [ti_nle, ti_nlt, ti_le, ti_lt, ti_eq, ti_ne, Classical.not_not, kt_0] at q
          omega
        have b30 : IV x24 0 0 := ⟨by have q1 := b25; have q2 := kc_0; omega, by have q1 := b25; have q2 := kc_0; omega⟩
        refine m_aload_n C dX6_kindAtHand_33 rfl rfl ?_
        refine s_ldc (w := 5) (tx := "") C rfl (by decide) rfl dX6_kindAtHand_34 ?_
        refine m_callV (n := 1) (ci := 5) (st := []) C (c_X6_isWord l G τ21 (w := 5) (by decide) i22 ) (by decide) (by decide) rfl rfl rfl q2_89 q2_86 q2_88 q0_7 q1_2 (by decide +kernel) rfl (by decide) (by decide) rfl (Nat.le_of_ble_eq_true rfl) dX6_kindAtHand_36 ?_
        rintro _ τ31 ⟨x34, rfl, i32, f33, b35⟩
        have g36 : Fr MS_X6_kindAtHand AS_X6_kindAtHand σ τ31 := Fr.call (g26) f33 (by decide)
        show MW p l e _ s m args below meth c _ 1 G 0 0 39 [some (.ref (G.1 12 0))] [.int x34] τ31
        refine m_if_eq (tgt := 44) C dX6_kindAtHand_39 (by decide) (fun c38 => ?_) (fun c38 => ?_)
        · have f39 : x34.toInt = 0 := by
            have q : _ := c38
            simp only [ti_nle, ti_nlt, ti_le, ti_lt, ti_eq, ti_ne, Classical.not_not, kt_0] at q
            omega
          have b40 : IV x34 0 0 := ⟨by have q1 := b35; have q2 := kc_0; omega, by have q1 := b35; have q2 := kc_0; omega⟩
          refine m_aload_n C dX6_kindAtHand_44 rfl rfl ?_
          refine s_ldc (w := 6) (tx := "") C rfl (by decide) rfl dX6_kindAtHand_45 ?_
          refine m_callV (n := 1) (ci := 5) (st := []) C (c_X6_isWord l G τ31 (w := 6) (by decide) i32 ) (by decide) (by decide) rfl rfl rfl q2_89 q2_86 q2_88 q0_7 q1_2 (by decide +kernel) rfl (by decide) (by decide) rfl (Nat.le_of_ble_eq_true rfl) dX6_kindAtHand_47 ?_
          rintro _ τ41 ⟨x44, rfl, i42, f43, b45⟩
          have g46 : Fr MS_X6_kindAtHand AS_X6_kindAtHand σ τ41 := Fr.call (g36) f43 (by decide)
          show MW p l e _ s m args below meth c _ 1 G 0 0 50 [some (.ref (G.1 12 0))] [.int x44] τ41
          refine m_if_eq (tgt := 57) C dX6_kindAtHand_50 (by decide) (fun c48 => ?_) (fun c48 => ?_)
          · have f49 : x44.toInt = 0 := by
              have q : _ := c48
              simp only [ti_nle, ti_nlt, ti_le, ti_lt, ti_eq, ti_ne, Classical.not_not, kt_0] at q
              omega
            have b50 : IV x44 0 0 := ⟨by have q1 := b45; have q2 := kc_0; omega, by have q1 := b45; have q2 := kc_0; omega⟩
            refine m_iconst (v := 0) C dX6_kindAtHand_57 (by decide) ?_
            exact m_iret C hr hlk (by decide) (by decide) dX6_kindAtHand_58 ⟨_, rfl, i42, g46, (iv_wk kc_0 (by decide))⟩
          · have f51 : x44.toInt ≠ 0 := by
              have q : _ := c48
              simp only [ti_nle, ti_nlt, ti_le, ti_lt, ti_eq, ti_ne, Classical.not_not, kt_0] at q
              omega
            have b52 : IV x44 1 1 := ⟨by have q1 := b45; have q2 := kc_0; omega, by have q1 := b45; have q2 := kc_0; omega⟩
            refine m_iconst (v := 5) C dX6_kindAtHand_53 (by decide) ?_
            refine m_goto (tgt := 58) C dX6_kindAtHand_54 (by decide) ?_
            exact m_iret C hr hlk (by decide) (by decide) dX6_kindAtHand_58 ⟨_, rfl, i42, g46, (iv_wk kc_5 (by decide))⟩
        · have f53 : x34.toInt ≠ 0 := by
            have q : _ := c38
            simp only [ti_nle, ti_nlt, ti_le, ti_lt, ti_eq, ti_ne, Classical.not_not, kt_0] at q
            omega
          have b54 : IV x34 1 1 := ⟨by have q1 := b35; have q2 := kc_0; omega, by have q1 := b35; have q2 := kc_0; omega⟩
          refine m_iconst (v := 4) C dX6_kindAtHand_42 (by decide) ?_
          exact m_iret C hr hlk (by decide) (by decide) dX6_kindAtHand_43 ⟨_, rfl, i32, g36, (iv_wk kc_4 (by decide))⟩
      · have f55 : x24.toInt ≠ 0 := by
          have q : _ := c28
          simp only [ti_nle, ti_nlt, ti_le, ti_lt, ti_eq, ti_ne, Classical.not_not, kt_0] at q
          omega
        have b56 : IV x24 1 1 := ⟨by have q1 := b25; have q2 := kc_0; omega, by have q1 := b25; have q2 := kc_0; omega⟩
        refine m_iconst (v := 3) C dX6_kindAtHand_31 (by decide) ?_
        exact m_iret C hr hlk (by decide) (by decide) dX6_kindAtHand_32 ⟨_, rfl, i22, g26, (iv_wk kc_3 (by decide))⟩
    · have f57 : x14.toInt ≠ 0 := by
        have q : _ := c18
        simp only [ti_nle, ti_nlt, ti_le, ti_lt, ti_eq, ti_ne, Classical.not_not, kt_0] at q
        omega
      have b58 : IV x14 1 1 := ⟨by have q1 := b15; have q2 := kc_0; omega, by have q1 := b15; have q2 := kc_0; omega⟩
      refine m_iconst (v := 2) C dX6_kindAtHand_20 (by decide) ?_
      exact m_iret C hr hlk (by decide) (by decide) dX6_kindAtHand_21 ⟨_, rfl, i12, g16, (iv_wk kc_2 (by decide))⟩
  · have f59 : x4.toInt ≠ 0 := by
      have q : _ := c8
      simp only [ti_nle, ti_nlt, ti_le, ti_lt, ti_eq, ti_ne, Classical.not_not, kt_0] at q
      omega
    have b60 : IV x4 1 1 := ⟨by have q1 := b5; have q2 := kc_0; omega, by have q1 := b5; have q2 := kc_0; omega⟩
    refine m_iconst (v := 1) C dX6_kindAtHand_9 (by decide) ?_
    exact m_iret C hr hlk (by decide) (by decide) dX6_kindAtHand_10 ⟨_, rfl, i2, g6, (iv_wk kc_1 (by decide))⟩

abbrev MS_X4_init : List (Nat × Nat) := []
abbrev AS_X4_init : List Nat := [99]
set_option maxHeartbeats 4000000 in
set_option maxRecDepth 100000 in
theorem c_X4_init (l : Launch) (G : Gt) (σ : Sg) (a0 : Nat) (a1 : Int32) (a2 : Int32) (a3 : Int32) (hI : Inv σ) (ha0 : a0 ∈ σ.2.2.2.1) : Mc l G yX4_init cX4_init 4 none 1 40 0 0 [.ref a0, .int a1, .int a2, .int a3] σ (PV fun τ => Inv τ ∧ Fr MS_X4_init AS_X4_init σ τ ∧ (τ.2.2.2.1 = σ.2.2.2.1 ∧ τ.2.2.2.2.1 = σ.2.2.2.2.1)) := by
  refine Mc.ofN (L0 := [some (.ref a0), some (.int a1), some (.int a2), some (.int a3)]) (by decide) (Nat.le_of_ble_eq_true rfl) rfl ?_
  intro p e s m args below meth c C hr hlk hnm
  have C : Cx p s m args c cX4_init 4 "LeanTower$Person" := C
  have hin : meth.name = "<init>" := hnm
  have k0 : (0 : Int32).toInt = 0 := by decide
  have k1 : (1 : Int32).toInt = 1 := by decide
  refine m_aload_n C dX4_init_0 rfl rfl ?_
  refine m_objInit (st := []) C q2_178 q1_27 q1_28 ⟨by decide, Nat.le_of_ble_eq_true rfl⟩ trivial dX4_init_1 ?_
  refine m_aload_n C dX4_init_4 rfl rfl ?_
  refine m_iload_n C dX4_init_5 rfl rfl ?_
  refine pp_0 C hin rfl hI.2.2 ha0 q2_179 dX4_init_6 ?_
  refine m_tops (fun τ1 eτ1 => ?_)
  have i2 : Inv τ1 := eτ1 ▸ Inv.sP hI
  have f3 : Fr MS_X4_init AS_X4_init σ τ1 := eτ1 ▸ Fr.sP (Fr.rf) (by decide)
  have v4 : a0 ∈ τ1.2.2.2.1 := by rw [eτ1]; exact ha0
  refine m_aload_n C dX4_init_9 rfl rfl ?_
  refine m_iload_n C dX4_init_10 rfl rfl ?_
  refine pp_1 C hin rfl i2.2.2 v4 q2_180 dX4_init_11 ?_
  refine m_tops (fun τ5 eτ5 => ?_)
  have i6 : Inv τ5 := eτ5 ▸ Inv.sP i2
  have f7 : Fr MS_X4_init AS_X4_init σ τ5 := eτ5 ▸ Fr.sP (f3) (by decide)
  have v8 : a0 ∈ τ5.2.2.2.1 := by rw [eτ5]; exact v4
  refine m_aload_n C dX4_init_14 rfl rfl ?_
  refine m_iload_n C dX4_init_15 rfl rfl ?_
  refine pp_2 C hin rfl i6.2.2 v8 q2_183 dX4_init_16 ?_
  refine m_tops (fun τ9 eτ9 => ?_)
  have i10 : Inv τ9 := eτ9 ▸ Inv.sP i6
  have f11 : Fr MS_X4_init AS_X4_init σ τ9 := eτ9 ▸ Fr.sP (f7) (by decide)
  have v12 : a0 ∈ τ9.2.2.2.1 := by rw [eτ9]; exact v8
  exact m_vret C hr hlk (by decide) (by decide) dX4_init_19 ⟨rfl, i10, f11, (by rw [eτ9]; exact (by rw [eτ5]; exact (by rw [eτ1]; exact ⟨rfl, rfl⟩)))⟩

abbrev MS_X5_init : List (Nat × Nat) := []
abbrev AS_X5_init : List Nat := [99]
set_option maxHeartbeats 4000000 in
set_option maxRecDepth 100000 in
theorem c_X5_init (l : Launch) (G : Gt) (σ : Sg) (a0 : Nat) (a1 : Int32) (a2 : Int32) (a3 : Int32) (hI : Inv σ) (ha0 : a0 ∈ σ.2.2.2.1) : Mc l G yX5_init cX5_init 4 none 2 63 0 0 [.ref a0, .int a1, .int a2, .int a3] σ (PV fun τ => Inv τ ∧ Fr MS_X5_init AS_X5_init σ τ ∧ (τ.2.2.2.1 = σ.2.2.2.1 ∧ τ.2.2.2.2.1 = σ.2.2.2.2.1)) := by
  refine Mc.ofN (L0 := [some (.ref a0), some (.int a1), some (.int a2), some (.int a3)]) (by decide) (Nat.le_of_ble_eq_true rfl) rfl ?_
  intro p e s m args below meth c C hr hlk hnm
  have C : Cx p s m args c cX5_init 4 "LeanTower$Pilgrim" := C
  have hin : meth.name = "<init>" := hnm
  have k0 : (0 : Int32).toInt = 0 := by decide
  have k1 : (1 : Int32).toInt = 1 := by decide
  refine m_aload_n C dX5_init_0 rfl rfl ?_
  refine m_iload_n C dX5_init_1 rfl rfl ?_
  refine m_iload_n C dX5_init_2 rfl rfl ?_
  refine m_iload_n C dX5_init_3 rfl rfl ?_
  refine m_callI (n := 3) (st := []) C (c_X4_init l G σ a0 (a1) (a2) (a3) hI ha0 ) rfl q2_177 q2_175 q2_176 q1_13 (by decide +kernel) rfl (by decide) (by decide) rfl (Nat.le_of_ble_eq_true rfl) dX5_init_4 ?_
  rintro _ τ1 ⟨rfl, i2, f3, h6⟩
  have g5 : Fr MS_X5_init AS_X5_init σ τ1 := Fr.call (Fr.rf) f3 (by decide)
  have v7 : a0 ∈ τ1.2.2.2.1 := by rw [h6.1]; exact ha0
  show MW p l e _ s m args below meth c _ 4 G 0 0 7 [some (.ref a0), some (.int a1), some (.int a2), some (.int a3)] [] τ1
  exact m_vret C hr hlk (by decide) (by decide) dX5_init_7 ⟨rfl, i2, g5, h6⟩

abbrev MS_X3_init : List (Nat × Nat) := []
abbrev AS_X3_init : List Nat := [99]
set_option maxHeartbeats 4000000 in
set_option maxRecDepth 100000 in
theorem c_X3_init (l : Launch) (G : Gt) (σ : Sg) (a0 : Nat) (a1 : Int32) (a2 : Int32) (a3 : Int32) (hI : Inv σ) (ha0 : a0 ∈ σ.2.2.2.1) : Mc l G yX3_init cX3_init 4 none 2 63 0 0 [.ref a0, .int a1, .int a2, .int a3] σ (PV fun τ => Inv τ ∧ Fr MS_X3_init AS_X3_init σ τ ∧ (τ.2.2.2.1 = σ.2.2.2.1 ∧ τ.2.2.2.2.1 = σ.2.2.2.2.1)) := by
  refine Mc.ofN (L0 := [some (.ref a0), some (.int a1), some (.int a2), some (.int a3)]) (by decide) (Nat.le_of_ble_eq_true rfl) rfl ?_
  intro p e s m args below meth c C hr hlk hnm
  have C : Cx p s m args c cX3_init 4 "LeanTower$Monk" := C
  have hin : meth.name = "<init>" := hnm
  have k0 : (0 : Int32).toInt = 0 := by decide
  have k1 : (1 : Int32).toInt = 1 := by decide
  refine m_aload_n C dX3_init_0 rfl rfl ?_
  refine m_iload_n C dX3_init_1 rfl rfl ?_
  refine m_iload_n C dX3_init_2 rfl rfl ?_
  refine m_iload_n C dX3_init_3 rfl rfl ?_
  refine m_callI (n := 3) (st := []) C (c_X4_init l G σ a0 (a1) (a2) (a3) hI ha0 ) rfl q2_177 q2_210 q2_176 q1_13 (by decide +kernel) rfl (by decide) (by decide) rfl (Nat.le_of_ble_eq_true rfl) dX3_init_4 ?_
  rintro _ τ1 ⟨rfl, i2, f3, h6⟩
  have g5 : Fr MS_X3_init AS_X3_init σ τ1 := Fr.call (Fr.rf) f3 (by decide)
  have v7 : a0 ∈ τ1.2.2.2.1 := by rw [h6.1]; exact ha0
  show MW p l e _ s m args below meth c _ 4 G 0 0 7 [some (.ref a0), some (.int a1), some (.int a2), some (.int a3)] [] τ1
  exact m_vret C hr hlk (by decide) (by decide) dX3_init_7 ⟨rfl, i2, g5, h6⟩

abbrev MS_X10_init : List (Nat × Nat) := []
abbrev AS_X10_init : List Nat := [99]
set_option maxHeartbeats 4000000 in
set_option maxRecDepth 100000 in
theorem c_X10_init (l : Launch) (G : Gt) (σ : Sg) (a0 : Nat) (a1 : Int32) (a2 : Int32) (a3 : Int32) (hI : Inv σ) (ha0 : a0 ∈ σ.2.2.2.1) : Mc l G yX10_init cX10_init 4 none 3 86 0 0 [.ref a0, .int a1, .int a2, .int a3] σ (PV fun τ => Inv τ ∧ Fr MS_X10_init AS_X10_init σ τ ∧ (τ.2.2.2.1 = σ.2.2.2.1 ∧ τ.2.2.2.2.1 = σ.2.2.2.2.1)) := by
  refine Mc.ofN (L0 := [some (.ref a0), some (.int a1), some (.int a2), some (.int a3)]) (by decide) (Nat.le_of_ble_eq_true rfl) rfl ?_
  intro p e s m args below meth c C hr hlk hnm
  have C : Cx p s m args c cX10_init 4 "LeanTower$Widow" := C
  have hin : meth.name = "<init>" := hnm
  have k0 : (0 : Int32).toInt = 0 := by decide
  have k1 : (1 : Int32).toInt = 1 := by decide
  refine m_aload_n C dX10_init_0 rfl rfl ?_
  refine m_iload_n C dX10_init_1 rfl rfl ?_
  refine m_iconst (v := 2) C dX10_init_2 (by decide) ?_
  refine m_iload_n C dX10_init_3 rfl rfl ?_
  refine m_imul C dX10_init_4 ?_
  refine m_topi (fun x1 ex1 => ?_)
  refine m_iload_n C dX10_init_5 rfl rfl ?_
  refine m_callI (n := 3) (st := []) C (c_X5_init l G σ a0 (a1) (x1) (a3) hI ha0 ) rfl q2_174 q2_172 q2_173 q1_14 (by decide +kernel) rfl (by decide) (by decide) rfl (Nat.le_of_ble_eq_true rfl) dX10_init_6 ?_
  rintro _ τ2 ⟨rfl, i3, f4, h7⟩
  have g6 : Fr MS_X10_init AS_X10_init σ τ2 := Fr.call (Fr.rf) f4 (by decide)
  have v8 : a0 ∈ τ2.2.2.2.1 := by rw [h7.1]; exact ha0
  show MW p l e _ s m args below meth c _ 4 G 0 0 9 [some (.ref a0), some (.int a1), some (.int a2), some (.int a3)] [] τ2
  exact m_vret C hr hlk (by decide) (by decide) dX10_init_9 ⟨rfl, i3, g6, h7⟩

abbrev MS_X2_init : List (Nat × Nat) := []
abbrev AS_X2_init : List Nat := [99]
set_option maxHeartbeats 4000000 in
set_option maxRecDepth 100000 in
theorem c_X2_init (l : Launch) (G : Gt) (σ : Sg) (a0 : Nat) (a1 : Int32) (a2 : Int32) (a3 : Int32) (hI : Inv σ) (ha0 : a0 ∈ σ.2.2.2.1) : Mc l G yX2_init cX2_init 4 none 3 86 0 0 [.ref a0, .int a1, .int a2, .int a3] σ (PV fun τ => Inv τ ∧ Fr MS_X2_init AS_X2_init σ τ ∧ (τ.2.2.2.1 = σ.2.2.2.1 ∧ τ.2.2.2.2.1 = σ.2.2.2.2.1)) := by
  refine Mc.ofN (L0 := [some (.ref a0), some (.int a1), some (.int a2), some (.int a3)]) (by decide) (Nat.le_of_ble_eq_true rfl) rfl ?_
  intro p e s m args below meth c C hr hlk hnm
  have C : Cx p s m args c cX2_init 4 "LeanTower$Boy" := C
  have hin : meth.name = "<init>" := hnm
  have k0 : (0 : Int32).toInt = 0 := by decide
  have k1 : (1 : Int32).toInt = 1 := by decide
  refine m_aload_n C dX2_init_0 rfl rfl ?_
  refine m_iload_n C dX2_init_1 rfl rfl ?_
  refine m_iload_n C dX2_init_2 rfl rfl ?_
  refine m_iconst (v := 2) C dX2_init_3 (by decide) ?_
  refine m_idiv C dX2_init_4 (iv_nz kc_2 (by decide)) ?_
  refine m_topi (fun x1 ex1 => ?_)
  refine m_iload_n C dX2_init_5 rfl rfl ?_
  refine m_callI (n := 3) (st := []) C (c_X5_init l G σ a0 (a1) (x1) (a3) hI ha0 ) rfl q2_174 q2_200 q2_173 q1_14 (by decide +kernel) rfl (by decide) (by decide) rfl (Nat.le_of_ble_eq_true rfl) dX2_init_6 ?_
  rintro _ τ2 ⟨rfl, i3, f4, h7⟩
  have g6 : Fr MS_X2_init AS_X2_init σ τ2 := Fr.call (Fr.rf) f4 (by decide)
  have v8 : a0 ∈ τ2.2.2.2.1 := by rw [h7.1]; exact ha0
  show MW p l e _ s m args below meth c _ 4 G 0 0 9 [some (.ref a0), some (.int a1), some (.int a2), some (.int a3)] [] τ2
  exact m_vret C hr hlk (by decide) (by decide) dX2_init_9 ⟨rfl, i3, g6, h7⟩

abbrev MS_X1_init : List (Nat × Nat) := []
abbrev AS_X1_init : List Nat := [99]
set_option maxHeartbeats 4000000 in
set_option maxRecDepth 100000 in
theorem c_X1_init (l : Launch) (G : Gt) (σ : Sg) (a0 : Nat) (a1 : Int32) (a2 : Int32) (a3 : Int32) (hI : Inv σ) (ha0 : a0 ∈ σ.2.2.2.1) : Mc l G yX1_init cX1_init 4 none 3 86 0 0 [.ref a0, .int a1, .int a2, .int a3] σ (PV fun τ => Inv τ ∧ Fr MS_X1_init AS_X1_init σ τ ∧ (τ.2.2.2.1 = σ.2.2.2.1 ∧ τ.2.2.2.2.1 = σ.2.2.2.2.1)) := by
  refine Mc.ofN (L0 := [some (.ref a0), some (.int a1), some (.int a2), some (.int a3)]) (by decide) (Nat.le_of_ble_eq_true rfl) rfl ?_
  intro p e s m args below meth c C hr hlk hnm
  have C : Cx p s m args c cX1_init 4 "LeanTower$Bishop" := C
  have hin : meth.name = "<init>" := hnm
  have k0 : (0 : Int32).toInt = 0 := by decide
  have k1 : (1 : Int32).toInt = 1 := by decide
  refine m_aload_n C dX1_init_0 rfl rfl ?_
  refine m_iload_n C dX1_init_1 rfl rfl ?_
  refine m_iload_n C dX1_init_2 rfl rfl ?_
  refine m_iconst (v := 5) C dX1_init_3 (by decide) ?_
  refine m_iadd C dX1_init_4 ?_
  refine m_topi (fun x1 ex1 => ?_)
  refine m_iload_n C dX1_init_5 rfl rfl ?_
  refine m_callI (n := 3) (st := []) C (c_X3_init l G σ a0 (a1) (x1) (a3) hI ha0 ) rfl q2_209 q2_220 q2_208 q1_17 (by decide +kernel) rfl (by decide) (by decide) rfl (Nat.le_of_ble_eq_true rfl) dX1_init_6 ?_
  rintro _ τ2 ⟨rfl, i3, f4, h7⟩
  have g6 : Fr MS_X1_init AS_X1_init σ τ2 := Fr.call (Fr.rf) f4 (by decide)
  have v8 : a0 ∈ τ2.2.2.2.1 := by rw [h7.1]; exact ha0
  show MW p l e _ s m args below meth c _ 4 G 0 0 9 [some (.ref a0), some (.int a1), some (.int a2), some (.int a3)] [] τ2
  exact m_vret C hr hlk (by decide) (by decide) dX1_init_9 ⟨rfl, i3, g6, h7⟩

abbrev MS_X6_newPerson : List (Nat × Nat) := []
abbrev AS_X6_newPerson : List Nat := [99]
set_option maxHeartbeats 4000000 in
set_option maxRecDepth 100000 in
theorem c_X6_newPerson (l : Launch) (G : Gt) (σ : Sg) (a1 : Int32) (a2 : Int32) (a3 : Int32) (a4 : Int32) (hI : Inv σ) : Mc l G yX6_newPerson cX6_newPerson 4 (some (.object "LeanTower$Person")) 4 109 1 3 [.int a1, .int a2, .int a3, .int a4] σ (PR fun x τ => Inv τ ∧ Fr MS_X6_newPerson AS_X6_newPerson σ τ ∧ (∃ q : Nat, x = .ref q ∧ q ∈ τ.2.2.2.1)) := by
  refine Mc.of (L0 := [some (.int a1), some (.int a2), some (.int a3), some (.int a4)]) (by decide) (Nat.le_of_ble_eq_true rfl) rfl ?_
  intro p e s m args below meth c C hr hlk
  have C : Cx p s m args c cX6_newPerson 4 "LeanTower$Reader" := C
  have k0 : (0 : Int32).toInt = 0 := by decide
  have k1 : (1 : Int32).toInt = 1 := by decide
  refine m_iload_n C dX6_newPerson_0 rfl rfl ?_
  by_cases s1 : a1.toInt < 2 ∨ 5 < a1.toInt
  · refine m_tableOut (tgt := 76) C dX6_newPerson_1 s1 (by decide) ?_
    refine m_new4 C q2_225 q2_226 q1_14 (by decide) (by decide) dX6_newPerson_76 (fun x2 => ?_)
    refine m_tops (fun τ3 eτ3 => ?_)
    have i4 : Inv τ3 := eτ3 ▸ Inv.addP hI (by decide)
    have f5 : Fr MS_X6_newPerson AS_X6_newPerson σ τ3 := eτ3 ▸ Fr.addP (Fr.rf) (by decide)
    have v6 : x2 ∈ τ3.2.2.2.1 := by rw [eτ3]; exact List.mem_append_right _ (List.mem_singleton.mpr rfl)
    refine m_dup C dX6_newPerson_79 rfl ?_
    refine m_iload_n C dX6_newPerson_80 rfl rfl ?_
    refine m_iload_n C dX6_newPerson_81 rfl rfl ?_
    refine m_iload_n C dX6_newPerson_82 rfl rfl ?_
    refine m_callI (n := 3) (st := [.ref x2]) C (c_X5_init l G τ3 x2 (a2) (a3) (a4) i4 v6 ) rfl q2_174 q2_227 q2_173 q1_14 (by decide +kernel) rfl (by decide) (by decide) rfl (Nat.le_of_ble_eq_true rfl) dX6_newPerson_83 ?_
    rintro _ τ7 ⟨rfl, i8, f9, h12⟩
    have g11 : Fr MS_X6_newPerson AS_X6_newPerson σ τ7 := Fr.call (f5) f9 (by decide)
    have v13 : x2 ∈ τ7.2.2.2.1 := by rw [h12.1]; exact v6
    show MW p l e _ s m args below meth c _ 4 G 1 3 86 [some (.int a1), some (.int a2), some (.int a3), some (.int a4)] [.ref x2] τ7
    exact m_aret C hr (Or.inr ⟨_, rfl⟩) hlk (by decide) (by decide) dX6_newPerson_86 ⟨_, rfl, i8, g11, ⟨_, rfl, v13⟩⟩
  by_cases s14 : a1.toInt = 2
  · refine m_tableIn (tgt := 32) (off := 31) C dX6_newPerson_1 (by omega) (by omega) (by rw [s14]; rfl) (by decide) ?_
    have b15 : IV a1 2 2 := ⟨by omega, by omega⟩
    refine m_new9 C q2_167 q2_168 q1_15 (by decide) (by decide) dX6_newPerson_32 (fun x16 => ?_)
    refine m_tops (fun τ17 eτ17 => ?_)
    have i18 : Inv τ17 := eτ17 ▸ Inv.addP hI (by decide)
    have f19 : Fr MS_X6_newPerson AS_X6_newPerson σ τ17 := eτ17 ▸ Fr.addP (Fr.rf) (by decide)
    have v20 : x16 ∈ τ17.2.2.2.1 := by rw [eτ17]; exact List.mem_append_right _ (List.mem_singleton.mpr rfl)
    refine m_dup C dX6_newPerson_35 rfl ?_
    refine m_iload_n C dX6_newPerson_36 rfl rfl ?_
    refine m_iload_n C dX6_newPerson_37 rfl rfl ?_
    refine m_iload_n C dX6_newPerson_38 rfl rfl ?_
    refine m_callI (n := 3) (st := [.ref x16]) C (c_X10_init l G τ17 x16 (a2) (a3) (a4) i18 v20 ) rfl q2_171 q2_169 q2_170 q1_15 (by decide +kernel) rfl (by decide) (by decide) rfl (Nat.le_of_ble_eq_true rfl) dX6_newPerson_39 ?_
    rintro _ τ21 ⟨rfl, i22, f23, h26⟩
    have g25 : Fr MS_X6_newPerson AS_X6_newPerson σ τ21 := Fr.call (f19) f23 (by decide)
    have v27 : x16 ∈ τ21.2.2.2.1 := by rw [h26.1]; exact v20
    show MW p l e _ s m args below meth c _ 4 G 1 3 42 [some (.int a1), some (.int a2), some (.int a3), some (.int a4)] [.ref x16] τ21
    exact m_aret C hr (Or.inr ⟨_, rfl⟩) hlk (by decide) (by decide) dX6_newPerson_42 ⟨_, rfl, i22, g25, ⟨_, rfl, v27⟩⟩
  by_cases s28 : a1.toInt = 3
  · refine m_tableIn (tgt := 43) (off := 42) C dX6_newPerson_1 (by omega) (by omega) (by rw [s28]; rfl) (by decide) ?_
    have b29 : IV a1 3 3 := ⟨by omega, by omega⟩
    refine m_new2 C q2_195 q2_196 q1_16 (by decide) (by decide) dX6_newPerson_43 (fun x30 => ?_)
    refine m_tops (fun τ31 eτ31 => ?_)
    have i32 : Inv τ31 := eτ31 ▸ Inv.addP hI (by decide)
    have f33 : Fr MS_X6_newPerson AS_X6_newPerson σ τ31 := eτ31 ▸ Fr.addP (Fr.rf) (by decide)
    have v34 : x30 ∈ τ31.2.2.2.1 := by rw [eτ31]; exact List.mem_append_right _ (List.mem_singleton.mpr rfl)
    refine m_dup C dX6_newPerson_46 rfl ?_
    refine m_iload_n C dX6_newPerson_47 rfl rfl ?_
    refine m_iload_n C dX6_newPerson_48 rfl rfl ?_
    refine m_iload_n C dX6_newPerson_49 rfl rfl ?_
    refine m_callI (n := 3) (st := [.ref x30]) C (c_X2_init l G τ31 x30 (a2) (a3) (a4) i32 v34 ) rfl q2_199 q2_197 q2_198 q1_16 (by decide +kernel) rfl (by decide) (by decide) rfl (Nat.le_of_ble_eq_true rfl) dX6_newPerson_50 ?_
    rintro _ τ35 ⟨rfl, i36, f37, h40⟩
    have g39 : Fr MS_X6_newPerson AS_X6_newPerson σ τ35 := Fr.call (f33) f37 (by decide)
    have v41 : x30 ∈ τ35.2.2.2.1 := by rw [h40.1]; exact v34
    show MW p l e _ s m args below meth c _ 4 G 1 3 53 [some (.int a1), some (.int a2), some (.int a3), some (.int a4)] [.ref x30] τ35
    exact m_aret C hr (Or.inr ⟨_, rfl⟩) hlk (by decide) (by decide) dX6_newPerson_53 ⟨_, rfl, i36, g39, ⟨_, rfl, v41⟩⟩
  by_cases s42 : a1.toInt = 4
  · refine m_tableIn (tgt := 54) (off := 53) C dX6_newPerson_1 (by omega) (by omega) (by rw [s42]; rfl) (by decide) ?_
    have b43 : IV a1 4 4 := ⟨by omega, by omega⟩
    refine m_new3 C q2_205 q2_206 q1_17 (by decide) (by decide) dX6_newPerson_54 (fun x44 => ?_)
    refine m_tops (fun τ45 eτ45 => ?_)
    have i46 : Inv τ45 := eτ45 ▸ Inv.addP hI (by decide)
    have f47 : Fr MS_X6_newPerson AS_X6_newPerson σ τ45 := eτ45 ▸ Fr.addP (Fr.rf) (by decide)
    have v48 : x44 ∈ τ45.2.2.2.1 := by rw [eτ45]; exact List.mem_append_right _ (List.mem_singleton.mpr rfl)
    refine m_dup C dX6_newPerson_57 rfl ?_
    refine m_iload_n C dX6_newPerson_58 rfl rfl ?_
    refine m_iload_n C dX6_newPerson_59 rfl rfl ?_
    refine m_iload_n C dX6_newPerson_60 rfl rfl ?_
    refine m_callI (n := 3) (st := [.ref x44]) C (c_X3_init l G τ45 x44 (a2) (a3) (a4) i46 v48 ) rfl q2_209 q2_207 q2_208 q1_17 (by decide +kernel) rfl (by decide) (by decide) rfl (Nat.le_of_ble_eq_true rfl) dX6_newPerson_61 ?_
    rintro _ τ49 ⟨rfl, i50, f51, h54⟩
    have g53 : Fr MS_X6_newPerson AS_X6_newPerson σ τ49 := Fr.call (f47) f51 (by decide)
    have v55 : x44 ∈ τ49.2.2.2.1 := by rw [h54.1]; exact v48
    show MW p l e _ s m args below meth c _ 4 G 1 3 64 [some (.int a1), some (.int a2), some (.int a3), some (.int a4)] [.ref x44] τ49
    exact m_aret C hr (Or.inr ⟨_, rfl⟩) hlk (by decide) (by decide) dX6_newPerson_64 ⟨_, rfl, i50, g53, ⟨_, rfl, v55⟩⟩
  by_cases s56 : a1.toInt = 5
  · refine m_tableIn (tgt := 65) (off := 64) C dX6_newPerson_1 (by omega) (by omega) (by rw [s56]; rfl) (by decide) ?_
    have b57 : IV a1 5 5 := ⟨by omega, by omega⟩
    refine m_new1 C q2_215 q2_216 q1_18 (by decide) (by decide) dX6_newPerson_65 (fun x58 => ?_)
    refine m_tops (fun τ59 eτ59 => ?_)
    have i60 : Inv τ59 := eτ59 ▸ Inv.addP hI (by decide)
    have f61 : Fr MS_X6_newPerson AS_X6_newPerson σ τ59 := eτ59 ▸ Fr.addP (Fr.rf) (by decide)
    have v62 : x58 ∈ τ59.2.2.2.1 := by rw [eτ59]; exact List.mem_append_right _ (List.mem_singleton.mpr rfl)
    refine m_dup C dX6_newPerson_68 rfl ?_
    refine m_iload_n C dX6_newPerson_69 rfl rfl ?_
    refine m_iload_n C dX6_newPerson_70 rfl rfl ?_
    refine m_iload_n C dX6_newPerson_71 rfl rfl ?_
    refine m_callI (n := 3) (st := [.ref x58]) C (c_X1_init l G τ59 x58 (a2) (a3) (a4) i60 v62 ) rfl q2_219 q2_217 q2_218 q1_18 (by decide +kernel) rfl (by decide) (by decide) rfl (Nat.le_of_ble_eq_true rfl) dX6_newPerson_72 ?_
    rintro _ τ63 ⟨rfl, i64, f65, h68⟩
    have g67 : Fr MS_X6_newPerson AS_X6_newPerson σ τ63 := Fr.call (f61) f65 (by decide)
    have v69 : x58 ∈ τ63.2.2.2.1 := by rw [h68.1]; exact v62
    show MW p l e _ s m args below meth c _ 4 G 1 3 75 [some (.int a1), some (.int a2), some (.int a3), some (.int a4)] [.ref x58] τ63
    exact m_aret C hr (Or.inr ⟨_, rfl⟩) hlk (by decide) (by decide) dX6_newPerson_75 ⟨_, rfl, i64, g67, ⟨_, rfl, v69⟩⟩
  exact absurd s1 (by omega)

abbrev MS_X6_readLaw : List (Nat × Nat) := [(1, 0), (1, 1), (12, 2), (12, 3), (12, 4), (12, 5), (12, 6), (12, 7)]
abbrev AS_X6_readLaw : List Nat := []
set_option maxHeartbeats 4000000 in
set_option maxRecDepth 100000 in
theorem c_X6_readLaw (l : Launch) (G : Gt) (σ : Sg) {j2 : Nat} (hj2 : j2 < 28) (hI : Inv σ) : Mc l G yX6_readLaw cX6_readLaw 2 (some .boolean) 5 107 0 0 [.ref (G.1 12 0), .ref (G.1 1 j2)] σ (PI fun r τ => Inv τ ∧ Fr MS_X6_readLaw AS_X6_readLaw σ τ ∧ IV r 0 1) := by
  refine Mc.of (L0 := [some (.ref (G.1 12 0)), some (.ref (G.1 1 j2))]) (by decide) (Nat.le_of_ble_eq_true rfl) rfl ?_
  intro p e s m args below meth c C hr hlk
  have C : Cx p s m args c cX6_readLaw 2 "LeanTower$Reader" := C
  have k0 : (0 : Int32).toInt = 0 := by decide
  have k1 : (1 : Int32).toInt = 1 := by decide
  refine m_aload_n C dX6_readLaw_0 rfl rfl ?_
  refine s_ldc (w := 0) (tx := "") C rfl (by decide) rfl dX6_readLaw_1 ?_
  refine m_callV (n := 1) (ci := 5) (st := []) C (c_X6_isWord l G σ (w := 0) (by decide) hI ) (by decide) (by decide) rfl rfl rfl q2_89 q2_86 q2_88 q0_7 q1_2 (by decide +kernel) rfl (by decide) (by decide) rfl (Nat.le_of_ble_eq_true rfl) dX6_readLaw_3 ?_
  rintro _ τ1 ⟨x4, rfl, i2, f3, b5⟩
  have g6 : Fr MS_X6_readLaw AS_X6_readLaw σ τ1 := Fr.call (Fr.rf) f3 (by decide)
  show MW p l e _ s m args below meth c _ 2 G 0 0 6 [some (.ref (G.1 12 0)), some (.ref (G.1 1 j2))] [.int x4] τ1
  refine m_if_ne (tgt := 15) C dX6_readLaw_6 (by decide) (fun c8 => ?_) (fun c8 => ?_)
  · have f9 : x4.toInt ≠ 0 := by
      have q : _ := c8
      simp only [ti_nle, ti_nlt, ti_le, ti_lt, ti_eq, ti_ne, Classical.not_not, kt_0] at q
      omega
    have b10 : IV x4 1 1 := ⟨by have q1 := b5; have q2 := kc_0; omega, by have q1 := b5; have q2 := kc_0; omega⟩
    refine m_aload_n C dX6_readLaw_15 rfl rfl ?_
    refine m_callV (n := 0) (ci := 5) (st := []) C (c_X6_next l G τ1  i2 ) (by decide) (by decide) rfl rfl rfl q2_63 q2_60 q2_62 q0_3 q1_2 (by decide +kernel) rfl (by decide) (by decide) rfl (Nat.le_of_ble_eq_true rfl) dX6_readLaw_16 ?_
    rintro _ τ11 ⟨rfl, i12, f13⟩
    have g16 : Fr MS_X6_readLaw AS_X6_readLaw σ τ11 := Fr.call (g6) f13 (by decide)
    show MW p l e _ s m args below meth c _ 2 G 0 0 19 [some (.ref (G.1 12 0)), some (.ref (G.1 1 j2))] [] τ11
    refine m_aload_n C dX6_readLaw_19 rfl rfl ?_
    refine m_aload_n C dX6_readLaw_20 rfl rfl ?_
    refine m_iconst (v := 4) C dX6_readLaw_21 (by decide) ?_
    refine m_bipush (v := 32) C dX6_readLaw_22 (by decide) ?_
    refine m_callV (n := 2) (ci := 5) (st := [.ref (G.1 1 j2)]) C (c_X6_number l G τ11 (4) (32) i12 ) (by decide) (by decide) rfl rfl rfl q2_145 q2_142 q2_144 q0_9 q1_2 (by decide +kernel) rfl (by decide) (by decide) rfl (Nat.le_of_ble_eq_true rfl) dX6_readLaw_24 ?_
    rintro _ τ18 ⟨x21, rfl, i19, f20, b22⟩
    have g23 : Fr MS_X6_readLaw AS_X6_readLaw σ τ18 := Fr.call (g16) f20 (by decide)
    show MW p l e _ s m args below meth c _ 2 G 0 0 27 [some (.ref (G.1 12 0)), some (.ref (G.1 1 j2))] [.int x21, .ref (G.1 1 j2)] τ18
    refine p_1_0 C hj2 q1_75 dX6_readLaw_27 ?_
    refine m_tops (fun τ25 eτ25 => ?_)
    have i26 : Inv τ25 := eτ25 ▸ Inv.putF i19 (by decide) rfl
    have f27 : Fr MS_X6_readLaw AS_X6_readLaw σ τ25 := eτ25 ▸ Fr.put (g23) (Or.inl (by decide))
    refine m_aload_n C dX6_readLaw_30 rfl rfl ?_
    refine g_1_0 C hj2 q1_75 dX6_readLaw_31 ?_
    refine m_eqs (w := x21) (show gV τ25 1 j2 0 = x21 from gV_put eτ25 (gV_self _ _ _ _ _)) ?_
    refine m_iconst (v := (-1)) C dX6_readLaw_34 (by decide) ?_
    refine m_icmp_ne (tgt := 40) C dX6_readLaw_35 (by decide) (fun c28 => ?_) (fun c28 => ?_)
    · have f29 : x21.toInt ≠ -1 := by
        have q : _ := c28
        simp only [ti_nle, ti_nlt, ti_le, ti_lt, ti_eq, ti_ne, Classical.not_not, kt_m1] at q
        omega
      refine m_aload_n C dX6_readLaw_40 rfl rfl ?_
      refine m_aload_n C dX6_readLaw_41 rfl rfl ?_
      refine m_iconst (v := 1) C dX6_readLaw_42 (by decide) ?_
      refine m_bipush (v := 99) C dX6_readLaw_43 (by decide) ?_
      refine m_callV (n := 2) (ci := 5) (st := [.ref (G.1 1 j2)]) C (c_X6_number l G τ25 (1) (99) i26 ) (by decide) (by decide) rfl rfl rfl q2_145 q2_142 q2_144 q0_9 q1_2 (by decide +kernel) rfl (by decide) (by decide) rfl (Nat.le_of_ble_eq_true rfl) dX6_readLaw_45 ?_
      rintro _ τ30 ⟨x33, rfl, i31, f32, b34⟩
      have g35 : Fr MS_X6_readLaw AS_X6_readLaw σ τ30 := Fr.call (f27) f32 (by decide)
      show MW p l e _ s m args below meth c _ 2 G 0 0 48 [some (.ref (G.1 12 0)), some (.ref (G.1 1 j2))] [.int x33, .ref (G.1 1 j2)] τ30
      refine p_1_1 C hj2 q1_78 dX6_readLaw_48 ?_
      refine m_tops (fun τ37 eτ37 => ?_)
      have i38 : Inv τ37 := eτ37 ▸ Inv.putF i31 (by decide) rfl
      have f39 : Fr MS_X6_readLaw AS_X6_readLaw σ τ37 := eτ37 ▸ Fr.put (g35) (Or.inl (by decide))
      refine m_aload_n C dX6_readLaw_51 rfl rfl ?_
      refine g_1_1 C hj2 q1_78 dX6_readLaw_52 ?_
      refine m_eqs (w := x33) (show gV τ37 1 j2 1 = x33 from gV_put eτ37 (gV_self _ _ _ _ _)) ?_
      refine m_iconst (v := (-1)) C dX6_readLaw_55 (by decide) ?_
      refine m_icmp_eq (tgt := 70) C dX6_readLaw_56 (by decide) (fun c40 => ?_) (fun c40 => ?_)
      · have f41 : x33.toInt = -1 := by
          have q : _ := c40
          simp only [ti_nle, ti_nlt, ti_le, ti_lt, ti_eq, ti_ne, Classical.not_not, kt_m1] at q
          omega
        have b42 : IV x33 (-1) (-1) := ⟨by have q1 := b34; have q2 := kc_m1; omega, by have q1 := b34; have q2 := kc_m1; omega⟩
        refine m_iconst (v := 0) C dX6_readLaw_70 (by decide) ?_
        exact m_zret C hr rfl hlk (by decide) (by decide) dX6_readLaw_71 ⟨_, rfl, i38, f39, (iv_wk kc_0 (by decide))⟩
      · have f43 : x33.toInt ≠ -1 := by
          have q : _ := c40
          simp only [ti_nle, ti_nlt, ti_le, ti_lt, ti_eq, ti_ne, Classical.not_not, kt_m1] at q
          omega
        refine m_aload_n C dX6_readLaw_59 rfl rfl ?_
        refine m_callV (n := 0) (ci := 5) (st := []) C (c_X6_passSemicolon l G τ37  i38 ) (by decide) (by decide) rfl rfl rfl q2_149 q2_146 q2_148 q0_10 q1_2 (by decide +kernel) rfl (by decide) (by decide) rfl (Nat.le_of_ble_eq_true rfl) dX6_readLaw_60 ?_
        rintro _ τ44 ⟨x47, rfl, i45, f46, b48⟩
        have g49 : Fr MS_X6_readLaw AS_X6_readLaw σ τ44 := Fr.call (f39) f46 (by decide)
        show MW p l e _ s m args below meth c _ 2 G 0 0 63 [some (.ref (G.1 12 0)), some (.ref (G.1 1 j2))] [.int x47] τ44
        refine m_if_eq (tgt := 70) C dX6_readLaw_63 (by decide) (fun c51 => ?_) (fun c51 => ?_)
        · have f52 : x47.toInt = 0 := by
            have q : _ := c51
            simp only [ti_nle, ti_nlt, ti_le, ti_lt, ti_eq, ti_ne, Classical.not_not, kt_0] at q
            omega
          have b53 : IV x47 0 0 := ⟨by have q1 := b48; have q2 := kc_0; omega, by have q1 := b48; have q2 := kc_0; omega⟩
          refine m_iconst (v := 0) C dX6_readLaw_70 (by decide) ?_
          exact m_zret C hr rfl hlk (by decide) (by decide) dX6_readLaw_71 ⟨_, rfl, i45, g49, (iv_wk kc_0 (by decide))⟩
        · have f54 : x47.toInt ≠ 0 := by
            have q : _ := c51
            simp only [ti_nle, ti_nlt, ti_le, ti_lt, ti_eq, ti_ne, Classical.not_not, kt_0] at q
            omega
          have b55 : IV x47 1 1 := ⟨by have q1 := b48; have q2 := kc_0; omega, by have q1 := b48; have q2 := kc_0; omega⟩
          refine m_iconst (v := 1) C dX6_readLaw_66 (by decide) ?_
          refine m_goto (tgt := 71) C dX6_readLaw_67 (by decide) ?_
          exact m_zret C hr rfl hlk (by decide) (by decide) dX6_readLaw_71 ⟨_, rfl, i45, g49, (iv_wk kc_1 (by decide))⟩
    · have f56 : x21.toInt = -1 := by
        have q : _ := c28
        simp only [ti_nle, ti_nlt, ti_le, ti_lt, ti_eq, ti_ne, Classical.not_not, kt_m1] at q
        omega
      have b57 : IV x21 (-1) (-1) := ⟨by have q1 := b22; have q2 := kc_m1; omega, by have q1 := b22; have q2 := kc_m1; omega⟩
      refine m_iconst (v := 0) C dX6_readLaw_38 (by decide) ?_
      exact m_zret C hr rfl hlk (by decide) (by decide) dX6_readLaw_39 ⟨_, rfl, i26, f27, (iv_wk kc_0 (by decide))⟩
  · have f58 : x4.toInt = 0 := by
      have q : _ := c8
      simp only [ti_nle, ti_nlt, ti_le, ti_lt, ti_eq, ti_ne, Classical.not_not, kt_0] at q
      omega
    have b59 : IV x4 0 0 := ⟨by have q1 := b5; have q2 := kc_0; omega, by have q1 := b5; have q2 := kc_0; omega⟩
    refine m_aload_n C dX6_readLaw_9 rfl rfl ?_
    refine m_iconst (v := 1) C dX6_readLaw_10 (by decide) ?_
    refine m_callV (n := 1) (ci := 5) (st := []) C (c_X6_refuse l G τ1 (1) i2 ) (by decide) (by decide) rfl rfl rfl q2_141 q2_138 q2_140 q0_8 q1_2 (by decide +kernel) rfl (by decide) (by decide) rfl (Nat.le_of_ble_eq_true rfl) dX6_readLaw_11 ?_
    rintro _ τ60 ⟨x63, rfl, i61, f62, b64⟩
    have g65 : Fr MS_X6_readLaw AS_X6_readLaw σ τ60 := Fr.call (g6) f62 (by decide)
    show MW p l e _ s m args below meth c _ 2 G 0 0 14 [some (.ref (G.1 12 0)), some (.ref (G.1 1 j2))] [.int x63] τ60
    exact m_zret C hr (nar_z (iv_wk b64 (by decide))) hlk (by decide) (by decide) dX6_readLaw_14 ⟨_, rfl, i61, g65, (iv_wk b64 (by decide))⟩

abbrev MS_X6_readPerson : List (Nat × Nat) := [(1, 2), (12, 2), (12, 3), (12, 4), (12, 5), (12, 6), (12, 7)]
abbrev AS_X6_readPerson : List Nat := [2, 3, 6, 99]
set_option maxHeartbeats 4000000 in
set_option maxRecDepth 100000 in
theorem c_X6_readPerson (l : Launch) (G : Gt) (σ : Sg) {j2 : Nat} (hj2 : j2 < 28) (hI : Inv σ) : Mc l G yX6_readPerson cX6_readPerson 7 (some .boolean) 6 132 1 3 [.ref (G.1 12 0), .ref (G.1 1 j2)] σ (PI fun r τ => Inv τ ∧ Fr MS_X6_readPerson AS_X6_readPerson σ τ ∧ IV r 0 1) := by
  refine Mc.of (L0 := [some (.ref (G.1 12 0)), some (.ref (G.1 1 j2)), none, none, none, none, none]) (by decide) (Nat.le_of_ble_eq_true rfl) rfl ?_
  intro p e s m args below meth c C hr hlk
  have C : Cx p s m args c cX6_readPerson 7 "LeanTower$Reader" := C
  have k0 : (0 : Int32).toInt = 0 := by decide
  have k1 : (1 : Int32).toInt = 1 := by decide
  have J111 : ∀ (τ : Sg) (y2 : Int32) (y3 : Int32) (y4 : Int32) (y5 : Int32) (z0 : Int32) (z1 : Int32), Inv τ → Fr MS_X6_readPerson AS_X6_readPerson σ τ → IV y2 1 5 → IV y3 (-2147483648) 2147483647 → IV y4 (-2147483648) 2147483647 → IV y5 0 1 → IV z0 (-2147483648) 2147483647 → IV z1 0 0 → MW p l e { frames := 6, cells := 1, slots := 3, locals := 132 } s m args below meth c (MQ below (QP G (PI fun r τ => Inv τ ∧ Fr MS_X6_readPerson AS_X6_readPerson σ τ ∧ IV r 0 1)) args s 1 3 (aG G)) 7 G 0 0 111 [some (.ref (G.1 12 0)), some (.ref (G.1 1 j2)), some (.int y2), some (.int y3), some (.int y4), some (.int y5), none] [.int z0, .int z1, .ref (G.1 12 0)] τ := by
    intro τ y2 y3 y4 y5 z0 z1 iτ fτ b_y2 b_y3 b_y4 b_y5 b_z0 b_z1
    refine m_callV (n := 2) (ci := 5) (st := []) C (c_X6_number l G τ (z1) (z0) iτ ) (by decide) (by decide) rfl rfl rfl q2_145 q2_142 q2_144 q0_9 q1_2 (by decide +kernel) rfl (by decide) (by decide) rfl (Nat.le_of_ble_eq_true rfl) dX6_readPerson_111 ?_
    rintro _ τ1 ⟨x4, rfl, i2, f3, b5⟩
    have g6 : Fr MS_X6_readPerson AS_X6_readPerson σ τ1 := Fr.call (fτ) f3 (by decide)
    show MW p l e _ s m args below meth c _ 7 G 0 0 114 [some (.ref (G.1 12 0)), some (.ref (G.1 1 j2)), some (.int y2), some (.int y3), some (.int y4), some (.int y5), none] [.int x4] τ1
    refine m_istore (L1 := [some (.ref (G.1 12 0)), some (.ref (G.1 1 j2)), some (.int y2), some (.int y3), some (.int y4), some (.int y5), some (.int x4)]) C dX6_readPerson_114 (by decide) rfl rfl ?_
    refine m_iload C dX6_readPerson_116 rfl ?_
    refine m_iconst (v := (-1)) C dX6_readPerson_118 (by decide) ?_
    refine m_icmp_ne (tgt := 124) C dX6_readPerson_119 (by decide) (fun c8 => ?_) (fun c8 => ?_)
    · have f9 : x4.toInt ≠ -1 := by
        have q : _ := c8
        simp only [ti_nle, ti_nlt, ti_le, ti_lt, ti_eq, ti_ne, Classical.not_not, kt_m1] at q
        omega
      refine m_aload_n C dX6_readPerson_124 rfl rfl ?_
      refine m_iload_n C dX6_readPerson_125 rfl rfl ?_
      refine m_aload_n C dX6_readPerson_126 rfl rfl ?_
      refine g_1_2 C hj2 q1_81 dX6_readPerson_127 ?_
      refine m_topi (fun x10 ex10 => ?_)
      have b11 : IV x10 0 7 := by rw [ex10]; exact i2.1 1 j2 2
      refine m_iload_n C dX6_readPerson_130 rfl rfl ?_
      refine m_iload C dX6_readPerson_131 rfl ?_
      refine m_callS (n := 4) (st := [.ref (G.1 1 j2)]) C (c_X6_newPerson l G τ1 (y2) (x10) (y3) (y4) i2 ) q2_166 q2_164 q2_165 q1_2 (by decide +kernel) rfl (by decide) (by decide) rfl (Nat.le_of_ble_eq_true rfl) dX6_readPerson_133 ?_
      rintro _ τ12 ⟨x15, rfl, i13, f14, h18⟩
      have g17 : Fr MS_X6_readPerson AS_X6_readPerson σ τ12 := Fr.call (g6) f14 (by decide)
      obtain ⟨x15q, rfl, x15m⟩ := h18
      show MW p l e _ s m args below meth c _ 7 G 1 3 136 [some (.ref (G.1 12 0)), some (.ref (G.1 1 j2)), some (.int y2), some (.int y3), some (.int y4), some (.int y5), some (.int x4)] [.ref x15q, .ref (G.1 1 j2)] τ12
      refine m_iload C dX6_readPerson_136 rfl ?_
      refine m_if_eq (tgt := 145) C dX6_readPerson_138 (by decide) (fun c19 => ?_) (fun c19 => ?_)
      · have f20 : y5.toInt = 0 := by
          have q : _ := c19
          simp only [ti_nle, ti_nlt, ti_le, ti_lt, ti_eq, ti_ne, Classical.not_not, kt_0] at q
          omega
        have b21 : IV y5 0 0 := ⟨by have q1 := b_y5; have q2 := kc_0; omega, by have q1 := b_y5; have q2 := kc_0; omega⟩
        refine m_iload C dX6_readPerson_145 rfl ?_
        refine m_callV (n := 2) (ci := 7) (st := []) C (c_X8_addPerson l G τ12 (j := j2) hj2 x15q (x4) i13 x15m) (by decide) hj2 rfl rfl rfl q2_235 q2_232 q2_233 q2_234 q1_3 (by decide +kernel) rfl (by decide) (by decide) rfl (Nat.le_of_ble_eq_true rfl) dX6_readPerson_147 ?_
        rintro _ τ22 ⟨rfl, i23, f24⟩
        have g27 : Fr MS_X6_readPerson AS_X6_readPerson σ τ22 := Fr.call (g17) f24 (by decide)
        have v29 : x15q ∈ τ22.2.2.2.1 := by rw [f24.2.2 (by decide)]; exact x15m
        show MW p l e _ s m args below meth c _ 7 G 1 3 150 [some (.ref (G.1 12 0)), some (.ref (G.1 1 j2)), some (.int y2), some (.int y3), some (.int y4), some (.int y5), some (.int x4)] [] τ22
        refine m_aload_n C dX6_readPerson_150 rfl rfl ?_
        refine m_callV (n := 0) (ci := 5) (st := []) C (c_X6_passSemicolon l G τ22  i23 ) (by decide) (by decide) rfl rfl rfl q2_149 q2_146 q2_148 q0_10 q1_2 (by decide +kernel) rfl (by decide) (by decide) rfl (Nat.le_of_ble_eq_true rfl) dX6_readPerson_151 ?_
        rintro _ τ30 ⟨x33, rfl, i31, f32, b34⟩
        have g35 : Fr MS_X6_readPerson AS_X6_readPerson σ τ30 := Fr.call (g27) f32 (by decide)
        have v37 : x15q ∈ τ30.2.2.2.1 := by rw [f32.2.2 (by decide)]; exact v29
        show MW p l e _ s m args below meth c _ 7 G 1 3 154 [some (.ref (G.1 12 0)), some (.ref (G.1 1 j2)), some (.int y2), some (.int y3), some (.int y4), some (.int y5), some (.int x4)] [.int x33] τ30
        exact m_zret C hr (nar_z b34) hlk (by decide) (by decide) dX6_readPerson_154 ⟨_, rfl, i31, g35, b34⟩
      · have f38 : y5.toInt ≠ 0 := by
          have q : _ := c19
          simp only [ti_nle, ti_nlt, ti_le, ti_lt, ti_eq, ti_ne, Classical.not_not, kt_0] at q
          omega
        have b39 : IV y5 1 1 := ⟨by have q1 := b_y5; have q2 := kc_0; omega, by have q1 := b_y5; have q2 := kc_0; omega⟩
        refine m_iconst (v := (-1)) C dX6_readPerson_141 (by decide) ?_
        refine m_goto (tgt := 147) C dX6_readPerson_142 (by decide) ?_
        refine m_callV (n := 2) (ci := 7) (st := []) C (c_X8_addPerson l G τ12 (j := j2) hj2 x15q ((-1)) i13 x15m) (by decide) hj2 rfl rfl rfl q2_235 q2_232 q2_233 q2_234 q1_3 (by decide +kernel) rfl (by decide) (by decide) rfl (Nat.le_of_ble_eq_true rfl) dX6_readPerson_147 ?_
        rintro _ τ40 ⟨rfl, i41, f42⟩
        have g45 : Fr MS_X6_readPerson AS_X6_readPerson σ τ40 := Fr.call (g17) f42 (by decide)
        have v47 : x15q ∈ τ40.2.2.2.1 := by rw [f42.2.2 (by decide)]; exact x15m
        show MW p l e _ s m args below meth c _ 7 G 1 3 150 [some (.ref (G.1 12 0)), some (.ref (G.1 1 j2)), some (.int y2), some (.int y3), some (.int y4), some (.int y5), some (.int x4)] [] τ40
        refine m_aload_n C dX6_readPerson_150 rfl rfl ?_
        refine m_callV (n := 0) (ci := 5) (st := []) C (c_X6_passSemicolon l G τ40  i41 ) (by decide) (by decide) rfl rfl rfl q2_149 q2_146 q2_148 q0_10 q1_2 (by decide +kernel) rfl (by decide) (by decide) rfl (Nat.le_of_ble_eq_true rfl) dX6_readPerson_151 ?_
        rintro _ τ48 ⟨x51, rfl, i49, f50, b52⟩
        have g53 : Fr MS_X6_readPerson AS_X6_readPerson σ τ48 := Fr.call (g45) f50 (by decide)
        have v55 : x15q ∈ τ48.2.2.2.1 := by rw [f50.2.2 (by decide)]; exact v47
        show MW p l e _ s m args below meth c _ 7 G 1 3 154 [some (.ref (G.1 12 0)), some (.ref (G.1 1 j2)), some (.int y2), some (.int y3), some (.int y4), some (.int y5), some (.int x4)] [.int x51] τ48
        exact m_zret C hr (nar_z b52) hlk (by decide) (by decide) dX6_readPerson_154 ⟨_, rfl, i49, g53, b52⟩
    · have f56 : x4.toInt = -1 := by
        have q : _ := c8
        simp only [ti_nle, ti_nlt, ti_le, ti_lt, ti_eq, ti_ne, Classical.not_not, kt_m1] at q
        omega
      have b57 : IV x4 (-1) (-1) := ⟨by have q1 := b5; have q2 := kc_m1; omega, by have q1 := b5; have q2 := kc_m1; omega⟩
      refine m_iconst (v := 0) C dX6_readPerson_122 (by decide) ?_
      exact m_zret C hr rfl hlk (by decide) (by decide) dX6_readPerson_123 ⟨_, rfl, i2, g6, (iv_wk kc_0 (by decide))⟩
  have J91 : ∀ (τ : Sg) (y2 : Int32) (y3 : Int32) (y4 : Int32) (z0 : Int32), Inv τ → Fr MS_X6_readPerson AS_X6_readPerson σ τ → IV y2 1 5 → IV y3 (-2147483648) 2147483647 → IV y4 (-2147483648) 2147483647 → IV z0 0 1 → MW p l e { frames := 6, cells := 1, slots := 3, locals := 132 } s m args below meth c (MQ below (QP G (PI fun r τ => Inv τ ∧ Fr MS_X6_readPerson AS_X6_readPerson σ τ ∧ IV r 0 1)) args s 1 3 (aG G)) 7 G 0 0 91 [some (.ref (G.1 12 0)), some (.ref (G.1 1 j2)), some (.int y2), some (.int y3), some (.int y4), none, none] [.int z0] τ := by
    intro τ y2 y3 y4 z0 iτ fτ b_y2 b_y3 b_y4 b_z0
    refine m_istore (L1 := [some (.ref (G.1 12 0)), some (.ref (G.1 1 j2)), some (.int y2), some (.int y3), some (.int y4), some (.int z0), none]) C dX6_readPerson_91 (by decide) rfl rfl ?_
    refine m_aload_n C dX6_readPerson_93 rfl rfl ?_
    refine m_iconst (v := 0) C dX6_readPerson_94 (by decide) ?_
    refine m_iload C dX6_readPerson_95 rfl ?_
    refine m_if_eq (tgt := 105) C dX6_readPerson_97 (by decide) (fun c58 => ?_) (fun c58 => ?_)
    · have f59 : z0.toInt = 0 := by
        have q : _ := c58
        simp only [ti_nle, ti_nlt, ti_le, ti_lt, ti_eq, ti_ne, Classical.not_not, kt_0] at q
        omega
      have b60 : IV z0 0 0 := ⟨by have q1 := b_z0; have q2 := kc_0; omega, by have q1 := b_z0; have q2 := kc_0; omega⟩
      refine m_aload_n C dX6_readPerson_105 rfl rfl ?_
      refine g_1_0 C hj2 q1_75 dX6_readPerson_106 ?_
      refine m_topi (fun x61 ex61 => ?_)
      refine m_iconst (v := 1) C dX6_readPerson_109 (by decide) ?_
      refine m_isub C dX6_readPerson_110 ?_
      refine m_topi (fun x62 ex62 => ?_)
      exact J111 τ y2 y3 y4 z0 x62 0 iτ fτ b_y2 b_y3 b_y4 (iv_wk b60 (by decide)) (iv_any x62) kc_0
    · have f63 : z0.toInt ≠ 0 := by
        have q : _ := c58
        simp only [ti_nle, ti_nlt, ti_le, ti_lt, ti_eq, ti_ne, Classical.not_not, kt_0] at q
        omega
      have b64 : IV z0 1 1 := ⟨by have q1 := b_z0; have q2 := kc_0; omega, by have q1 := b_z0; have q2 := kc_0; omega⟩
      refine m_bipush (v := 99) C dX6_readPerson_100 (by decide) ?_
      refine m_goto (tgt := 111) C dX6_readPerson_102 (by decide) ?_
      exact J111 τ y2 y3 y4 z0 99 0 iτ fτ b_y2 b_y3 b_y4 (iv_wk b64 (by decide)) (iv_wk kc_99 (by decide)) kc_0
  refine m_aload_n C dX6_readPerson_0 rfl rfl ?_
  refine g_1_2 C hj2 q1_81 dX6_readPerson_1 ?_
  refine m_topi (fun x65 ex65 => ?_)
  have b66 : IV x65 0 7 := by rw [ex65]; exact hI.1 1 j2 2
  refine m_bipush (v := 7) C dX6_readPerson_4 (by decide) ?_
  refine m_icmp_lt (tgt := 15) C dX6_readPerson_6 (by decide) (fun c67 => ?_) (fun c67 => ?_)
  · have f68 : x65.toInt < 7 := by
      have q : _ := c67
      simp only [ti_nle, ti_nlt, ti_le, ti_lt, ti_eq, ti_ne, Classical.not_not, kt_7] at q
      omega
    have b69 : IV x65 0 6 := ⟨by have q1 := b66; have q2 := kc_7; omega, by have q1 := b66; have q2 := kc_7; omega⟩
    refine m_aload_n C dX6_readPerson_15 rfl rfl ?_
    refine m_callV (n := 0) (ci := 5) (st := []) C (c_X6_next l G σ  hI ) (by decide) (by decide) rfl rfl rfl q2_63 q2_60 q2_62 q0_3 q1_2 (by decide +kernel) rfl (by decide) (by decide) rfl (Nat.le_of_ble_eq_true rfl) dX6_readPerson_16 ?_
    rintro _ τ70 ⟨rfl, i71, f72⟩
    have g75 : Fr MS_X6_readPerson AS_X6_readPerson σ τ70 := Fr.call (Fr.rf) f72 (by decide)
    show MW p l e _ s m args below meth c _ 7 G 0 0 19 [some (.ref (G.1 12 0)), some (.ref (G.1 1 j2)), none, none, none, none, none] [] τ70
    refine m_aload_n C dX6_readPerson_19 rfl rfl ?_
    refine m_callV (n := 0) (ci := 5) (st := []) C (c_X6_kindAtHand l G τ70  i71 ) (by decide) (by decide) rfl rfl rfl q2_158 q2_155 q2_157 q0_12 q1_2 (by decide +kernel) rfl (by decide) (by decide) rfl (Nat.le_of_ble_eq_true rfl) dX6_readPerson_20 ?_
    rintro _ τ77 ⟨x80, rfl, i78, f79, b81⟩
    have g82 : Fr MS_X6_readPerson AS_X6_readPerson σ τ77 := Fr.call (g75) f79 (by decide)
    show MW p l e _ s m args below meth c _ 7 G 0 0 23 [some (.ref (G.1 12 0)), some (.ref (G.1 1 j2)), none, none, none, none, none] [.int x80] τ77
    refine m_istore_n (L1 := [some (.ref (G.1 12 0)), some (.ref (G.1 1 j2)), some (.int x80), none, none, none, none]) C dX6_readPerson_23 rfl (by decide) rfl rfl ?_
    refine m_iload_n C dX6_readPerson_24 rfl rfl ?_
    refine m_if_ne (tgt := 34) C dX6_readPerson_25 (by decide) (fun c84 => ?_) (fun c84 => ?_)
    · have f85 : x80.toInt ≠ 0 := by
        have q : _ := c84
        simp only [ti_nle, ti_nlt, ti_le, ti_lt, ti_eq, ti_ne, Classical.not_not, kt_0] at q
        omega
      have b86 : IV x80 1 5 := ⟨by have q1 := b81; have q2 := kc_0; omega, by have q1 := b81; have q2 := kc_0; omega⟩
      refine m_aload_n C dX6_readPerson_34 rfl rfl ?_
      refine m_callV (n := 0) (ci := 5) (st := []) C (c_X6_next l G τ77  i78 ) (by decide) (by decide) rfl rfl rfl q2_63 q2_60 q2_62 q0_3 q1_2 (by decide +kernel) rfl (by decide) (by decide) rfl (Nat.le_of_ble_eq_true rfl) dX6_readPerson_35 ?_
      rintro _ τ87 ⟨rfl, i88, f89⟩
      have g92 : Fr MS_X6_readPerson AS_X6_readPerson σ τ87 := Fr.call (g82) f89 (by decide)
      show MW p l e _ s m args below meth c _ 7 G 0 0 38 [some (.ref (G.1 12 0)), some (.ref (G.1 1 j2)), some (.int x80), none, none, none, none] [] τ87
      refine m_aload_n C dX6_readPerson_38 rfl rfl ?_
      refine m_iconst (v := 1) C dX6_readPerson_39 (by decide) ?_
      refine m_bipush (v := 20) C dX6_readPerson_40 (by decide) ?_
      refine m_callV (n := 2) (ci := 5) (st := []) C (c_X6_number l G τ87 (1) (20) i88 ) (by decide) (by decide) rfl rfl rfl q2_145 q2_142 q2_144 q0_9 q1_2 (by decide +kernel) rfl (by decide) (by decide) rfl (Nat.le_of_ble_eq_true rfl) dX6_readPerson_42 ?_
      rintro _ τ94 ⟨x97, rfl, i95, f96, b98⟩
      have g99 : Fr MS_X6_readPerson AS_X6_readPerson σ τ94 := Fr.call (g92) f96 (by decide)
      show MW p l e _ s m args below meth c _ 7 G 0 0 45 [some (.ref (G.1 12 0)), some (.ref (G.1 1 j2)), some (.int x80), none, none, none, none] [.int x97] τ94
      refine m_istore_n (L1 := [some (.ref (G.1 12 0)), some (.ref (G.1 1 j2)), some (.int x80), some (.int x97), none, none, none]) C dX6_readPerson_45 rfl (by decide) rfl rfl ?_
      refine m_iload_n C dX6_readPerson_46 rfl rfl ?_
      refine m_iconst (v := (-1)) C dX6_readPerson_47 (by decide) ?_
      refine m_icmp_ne (tgt := 53) C dX6_readPerson_48 (by decide) (fun c101 => ?_) (fun c101 => ?_)
      · have f102 : x97.toInt ≠ -1 := by
          have q : _ := c101
          simp only [ti_nle, ti_nlt, ti_le, ti_lt, ti_eq, ti_ne, Classical.not_not, kt_m1] at q
          omega
        refine m_aload_n C dX6_readPerson_53 rfl rfl ?_
        refine m_iconst (v := 1) C dX6_readPerson_54 (by decide) ?_
        refine m_iconst (v := 4) C dX6_readPerson_55 (by decide) ?_
        refine m_callV (n := 2) (ci := 5) (st := []) C (c_X6_number l G τ94 (1) (4) i95 ) (by decide) (by decide) rfl rfl rfl q2_145 q2_142 q2_144 q0_9 q1_2 (by decide +kernel) rfl (by decide) (by decide) rfl (Nat.le_of_ble_eq_true rfl) dX6_readPerson_56 ?_
        rintro _ τ103 ⟨x106, rfl, i104, f105, b107⟩
        have g108 : Fr MS_X6_readPerson AS_X6_readPerson σ τ103 := Fr.call (g99) f105 (by decide)
        show MW p l e _ s m args below meth c _ 7 G 0 0 59 [some (.ref (G.1 12 0)), some (.ref (G.1 1 j2)), some (.int x80), some (.int x97), none, none, none] [.int x106] τ103
        refine m_istore (L1 := [some (.ref (G.1 12 0)), some (.ref (G.1 1 j2)), some (.int x80), some (.int x97), some (.int x106), none, none]) C dX6_readPerson_59 (by decide) rfl rfl ?_
        refine m_iload C dX6_readPerson_61 rfl ?_
        refine m_iconst (v := (-1)) C dX6_readPerson_63 (by decide) ?_
        refine m_icmp_ne (tgt := 69) C dX6_readPerson_64 (by decide) (fun c110 => ?_) (fun c110 => ?_)
        · have f111 : x106.toInt ≠ -1 := by
            have q : _ := c110
            simp only [ti_nle, ti_nlt, ti_le, ti_lt, ti_eq, ti_ne, Classical.not_not, kt_m1] at q
            omega
          refine m_aload_n C dX6_readPerson_69 rfl rfl ?_
          refine g_12_6 C q1_46 dX6_readPerson_70 ?_
          refine m_topi (fun x112 ex112 => ?_)
          refine m_iconst (v := 2) C dX6_readPerson_73 (by decide) ?_
          refine m_icmp_ne (tgt := 90) C dX6_readPerson_74 (by decide) (fun c113 => ?_) (fun c113 => ?_)
          · have f114 : x112.toInt ≠ 2 := by
              have q : _ := c113
              simp only [ti_nle, ti_nlt, ti_le, ti_lt, ti_eq, ti_ne, Classical.not_not, kt_2] at q
              omega
            refine m_iconst (v := 0) C dX6_readPerson_90 (by decide) ?_
            exact J91 τ103 x80 x97 x106 0 i104 g108 b86 b98 b107 (iv_wk kc_0 (by decide))
          · have f115 : x112.toInt = 2 := by
              have q : _ := c113
              simp only [ti_nle, ti_nlt, ti_le, ti_lt, ti_eq, ti_ne, Classical.not_not, kt_2] at q
              omega
            have b116 : IV x112 2 2 := ⟨by have q1 := (iv_any x112); have q2 := kc_2; omega, by have q1 := (iv_any x112); have q2 := kc_2; omega⟩
            refine m_aload_n C dX6_readPerson_77 rfl rfl ?_
            refine g_12_7 C q1_47 dX6_readPerson_78 ?_
            refine m_topi (fun x117 ex117 => ?_)
            refine m_bipush (v := 99) C dX6_readPerson_81 (by decide) ?_
            refine m_icmp_ne (tgt := 90) C dX6_readPerson_83 (by decide) (fun c118 => ?_) (fun c118 => ?_)
            · have f119 : x117.toInt ≠ 99 := by
                have q : _ := c118
                simp only [ti_nle, ti_nlt, ti_le, ti_lt, ti_eq, ti_ne, Classical.not_not, kt_99] at q
                omega
              refine m_iconst (v := 0) C dX6_readPerson_90 (by decide) ?_
              exact J91 τ103 x80 x97 x106 0 i104 g108 b86 b98 b107 (iv_wk kc_0 (by decide))
            · have f120 : x117.toInt = 99 := by
                have q : _ := c118
                simp only [ti_nle, ti_nlt, ti_le, ti_lt, ti_eq, ti_ne, Classical.not_not, kt_99] at q
                omega
              have b121 : IV x117 99 99 := ⟨by have q1 := (iv_any x117); have q2 := kc_99; omega, by have q1 := (iv_any x117); have q2 := kc_99; omega⟩
              refine m_iconst (v := 1) C dX6_readPerson_86 (by decide) ?_
              refine m_goto (tgt := 91) C dX6_readPerson_87 (by decide) ?_
              exact J91 τ103 x80 x97 x106 1 i104 g108 b86 b98 b107 (iv_wk kc_1 (by decide))
        · have f122 : x106.toInt = -1 := by
            have q : _ := c110
            simp only [ti_nle, ti_nlt, ti_le, ti_lt, ti_eq, ti_ne, Classical.not_not, kt_m1] at q
            omega
          have b123 : IV x106 (-1) (-1) := ⟨by have q1 := b107; have q2 := kc_m1; omega, by have q1 := b107; have q2 := kc_m1; omega⟩
          refine m_iconst (v := 0) C dX6_readPerson_67 (by decide) ?_
          exact m_zret C hr rfl hlk (by decide) (by decide) dX6_readPerson_68 ⟨_, rfl, i104, g108, (iv_wk kc_0 (by decide))⟩
      · have f124 : x97.toInt = -1 := by
          have q : _ := c101
          simp only [ti_nle, ti_nlt, ti_le, ti_lt, ti_eq, ti_ne, Classical.not_not, kt_m1] at q
          omega
        have b125 : IV x97 (-1) (-1) := ⟨by have q1 := b98; have q2 := kc_m1; omega, by have q1 := b98; have q2 := kc_m1; omega⟩
        refine m_iconst (v := 0) C dX6_readPerson_51 (by decide) ?_
        exact m_zret C hr rfl hlk (by decide) (by decide) dX6_readPerson_52 ⟨_, rfl, i95, g99, (iv_wk kc_0 (by decide))⟩
    · have f126 : x80.toInt = 0 := by
        have q : _ := c84
        simp only [ti_nle, ti_nlt, ti_le, ti_lt, ti_eq, ti_ne, Classical.not_not, kt_0] at q
        omega
      have b127 : IV x80 0 0 := ⟨by have q1 := b81; have q2 := kc_0; omega, by have q1 := b81; have q2 := kc_0; omega⟩
      refine m_aload_n C dX6_readPerson_28 rfl rfl ?_
      refine m_iconst (v := 1) C dX6_readPerson_29 (by decide) ?_
      refine m_callV (n := 1) (ci := 5) (st := []) C (c_X6_refuse l G τ77 (1) i78 ) (by decide) (by decide) rfl rfl rfl q2_141 q2_138 q2_140 q0_8 q1_2 (by decide +kernel) rfl (by decide) (by decide) rfl (Nat.le_of_ble_eq_true rfl) dX6_readPerson_30 ?_
      rintro _ τ128 ⟨x131, rfl, i129, f130, b132⟩
      have g133 : Fr MS_X6_readPerson AS_X6_readPerson σ τ128 := Fr.call (g82) f130 (by decide)
      show MW p l e _ s m args below meth c _ 7 G 0 0 33 [some (.ref (G.1 12 0)), some (.ref (G.1 1 j2)), some (.int x80), none, none, none, none] [.int x131] τ128
      exact m_zret C hr (nar_z (iv_wk b132 (by decide))) hlk (by decide) (by decide) dX6_readPerson_33 ⟨_, rfl, i129, g133, (iv_wk b132 (by decide))⟩
  · have f135 : 7 ≤ x65.toInt := by
      have q : _ := c67
      simp only [ti_nle, ti_nlt, ti_le, ti_lt, ti_eq, ti_ne, Classical.not_not, kt_7] at q
      omega
    have b136 : IV x65 7 7 := ⟨by have q1 := kc_7; have q2 := b66; omega, by have q1 := kc_7; have q2 := b66; omega⟩
    refine m_aload_n C dX6_readPerson_9 rfl rfl ?_
    refine m_iconst (v := 3) C dX6_readPerson_10 (by decide) ?_
    refine m_callV (n := 1) (ci := 5) (st := []) C (c_X6_refuse l G σ (3) hI ) (by decide) (by decide) rfl rfl rfl q2_141 q2_138 q2_140 q0_8 q1_2 (by decide +kernel) rfl (by decide) (by decide) rfl (Nat.le_of_ble_eq_true rfl) dX6_readPerson_11 ?_
    rintro _ τ137 ⟨x140, rfl, i138, f139, b141⟩
    have g142 : Fr MS_X6_readPerson AS_X6_readPerson σ τ137 := Fr.call (Fr.rf) f139 (by decide)
    show MW p l e _ s m args below meth c _ 7 G 0 0 14 [some (.ref (G.1 12 0)), some (.ref (G.1 1 j2)), none, none, none, none, none] [.int x140] τ137
    exact m_zret C hr (nar_z (iv_wk b141 (by decide))) hlk (by decide) (by decide) dX6_readPerson_14 ⟨_, rfl, i138, g142, (iv_wk b141 (by decide))⟩

abbrev MS_X6_readStone : List (Nat × Nat) := [(1, 3), (12, 2), (12, 3), (12, 4), (12, 5), (12, 6), (12, 7)]
abbrev AS_X6_readStone : List Nat := [4, 5]
set_option maxHeartbeats 4000000 in
set_option maxRecDepth 100000 in
theorem c_X6_readStone (l : Launch) (G : Gt) (σ : Sg) {j2 : Nat} (hj2 : j2 < 28) (hI : Inv σ) : Mc l G yX6_readStone cX6_readStone 4 (some .boolean) 4 83 0 0 [.ref (G.1 12 0), .ref (G.1 1 j2)] σ (PI fun r τ => Inv τ ∧ Fr MS_X6_readStone AS_X6_readStone σ τ ∧ IV r 0 1) := by
  refine Mc.of (L0 := [some (.ref (G.1 12 0)), some (.ref (G.1 1 j2)), none, none]) (by decide) (Nat.le_of_ble_eq_true rfl) rfl ?_
  intro p e s m args below meth c C hr hlk
  have C : Cx p s m args c cX6_readStone 4 "LeanTower$Reader" := C
  have k0 : (0 : Int32).toInt = 0 := by decide
  have k1 : (1 : Int32).toInt = 1 := by decide
  refine m_aload_n C dX6_readStone_0 rfl rfl ?_
  refine g_1_3 C hj2 q1_84 dX6_readStone_1 ?_
  refine m_topi (fun x1 ex1 => ?_)
  have b2 : IV x1 0 4 := by rw [ex1]; exact hI.1 1 j2 3
  refine m_iconst (v := 4) C dX6_readStone_4 (by decide) ?_
  refine m_icmp_lt (tgt := 14) C dX6_readStone_5 (by decide) (fun c3 => ?_) (fun c3 => ?_)
  · have f4 : x1.toInt < 4 := by
      have q : _ := c3
      simp only [ti_nle, ti_nlt, ti_le, ti_lt, ti_eq, ti_ne, Classical.not_not, kt_4] at q
      omega
    have b5 : IV x1 0 3 := ⟨by have q1 := b2; have q2 := kc_4; omega, by have q1 := b2; have q2 := kc_4; omega⟩
    refine m_aload_n C dX6_readStone_14 rfl rfl ?_
    refine m_callV (n := 0) (ci := 5) (st := []) C (c_X6_next l G σ  hI ) (by decide) (by decide) rfl rfl rfl q2_63 q2_60 q2_62 q0_3 q1_2 (by decide +kernel) rfl (by decide) (by decide) rfl (Nat.le_of_ble_eq_true rfl) dX6_readStone_15 ?_
    rintro _ τ6 ⟨rfl, i7, f8⟩
    have g11 : Fr MS_X6_readStone AS_X6_readStone σ τ6 := Fr.call (Fr.rf) f8 (by decide)
    show MW p l e _ s m args below meth c _ 4 G 0 0 18 [some (.ref (G.1 12 0)), some (.ref (G.1 1 j2)), none, none] [] τ6
    refine m_aload_n C dX6_readStone_18 rfl rfl ?_
    refine m_iconst (v := 1) C dX6_readStone_19 (by decide) ?_
    refine m_bipush (v := 20) C dX6_readStone_20 (by decide) ?_
    refine m_callV (n := 2) (ci := 5) (st := []) C (c_X6_number l G τ6 (1) (20) i7 ) (by decide) (by decide) rfl rfl rfl q2_145 q2_142 q2_144 q0_9 q1_2 (by decide +kernel) rfl (by decide) (by decide) rfl (Nat.le_of_ble_eq_true rfl) dX6_readStone_22 ?_
    rintro _ τ13 ⟨x16, rfl, i14, f15, b17⟩
    have g18 : Fr MS_X6_readStone AS_X6_readStone σ τ13 := Fr.call (g11) f15 (by decide)
    show MW p l e _ s m args below meth c _ 4 G 0 0 25 [some (.ref (G.1 12 0)), some (.ref (G.1 1 j2)), none, none] [.int x16] τ13
    refine m_istore_n (L1 := [some (.ref (G.1 12 0)), some (.ref (G.1 1 j2)), some (.int x16), none]) C dX6_readStone_25 rfl (by decide) rfl rfl ?_
    refine m_iload_n C dX6_readStone_26 rfl rfl ?_
    refine m_iconst (v := (-1)) C dX6_readStone_27 (by decide) ?_
    refine m_icmp_ne (tgt := 33) C dX6_readStone_28 (by decide) (fun c20 => ?_) (fun c20 => ?_)
    · have f21 : x16.toInt ≠ -1 := by
        have q : _ := c20
        simp only [ti_nle, ti_nlt, ti_le, ti_lt, ti_eq, ti_ne, Classical.not_not, kt_m1] at q
        omega
      refine m_aload_n C dX6_readStone_33 rfl rfl ?_
      refine m_iconst (v := 0) C dX6_readStone_34 (by decide) ?_
      refine m_iconst (v := 3) C dX6_readStone_35 (by decide) ?_
      refine m_callV (n := 2) (ci := 5) (st := []) C (c_X6_number l G τ13 (0) (3) i14 ) (by decide) (by decide) rfl rfl rfl q2_145 q2_142 q2_144 q0_9 q1_2 (by decide +kernel) rfl (by decide) (by decide) rfl (Nat.le_of_ble_eq_true rfl) dX6_readStone_36 ?_
      rintro _ τ22 ⟨x25, rfl, i23, f24, b26⟩
      have g27 : Fr MS_X6_readStone AS_X6_readStone σ τ22 := Fr.call (g18) f24 (by decide)
      show MW p l e _ s m args below meth c _ 4 G 0 0 39 [some (.ref (G.1 12 0)), some (.ref (G.1 1 j2)), some (.int x16), none] [.int x25] τ22
      refine m_istore_n (L1 := [some (.ref (G.1 12 0)), some (.ref (G.1 1 j2)), some (.int x16), some (.int x25)]) C dX6_readStone_39 rfl (by decide) rfl rfl ?_
      refine m_iload_n C dX6_readStone_40 rfl rfl ?_
      refine m_iconst (v := (-1)) C dX6_readStone_41 (by decide) ?_
      refine m_icmp_ne (tgt := 47) C dX6_readStone_42 (by decide) (fun c29 => ?_) (fun c29 => ?_)
      · have f30 : x25.toInt ≠ -1 := by
          have q : _ := c29
          simp only [ti_nle, ti_nlt, ti_le, ti_lt, ti_eq, ti_ne, Classical.not_not, kt_m1] at q
          omega
        refine m_aload_n C dX6_readStone_47 rfl rfl ?_
        refine m_iload_n C dX6_readStone_48 rfl rfl ?_
        refine m_iload_n C dX6_readStone_49 rfl rfl ?_
        refine m_callV (n := 2) (ci := 7) (st := []) C (c_X8_addStone l G τ22 (j := j2) hj2 (x16) (x25) i23 ) (by decide) hj2 rfl rfl rfl q3_4 q3_1 q3_2 q3_3 q1_3 (by decide +kernel) rfl (by decide) (by decide) rfl (Nat.le_of_ble_eq_true rfl) dX6_readStone_50 ?_
        rintro _ τ31 ⟨rfl, i32, f33⟩
        have g36 : Fr MS_X6_readStone AS_X6_readStone σ τ31 := Fr.call (g27) f33 (by decide)
        show MW p l e _ s m args below meth c _ 4 G 0 0 53 [some (.ref (G.1 12 0)), some (.ref (G.1 1 j2)), some (.int x16), some (.int x25)] [] τ31
        refine m_aload_n C dX6_readStone_53 rfl rfl ?_
        refine m_callV (n := 0) (ci := 5) (st := []) C (c_X6_passSemicolon l G τ31  i32 ) (by decide) (by decide) rfl rfl rfl q2_149 q2_146 q2_148 q0_10 q1_2 (by decide +kernel) rfl (by decide) (by decide) rfl (Nat.le_of_ble_eq_true rfl) dX6_readStone_54 ?_
        rintro _ τ38 ⟨x41, rfl, i39, f40, b42⟩
        have g43 : Fr MS_X6_readStone AS_X6_readStone σ τ38 := Fr.call (g36) f40 (by decide)
        show MW p l e _ s m args below meth c _ 4 G 0 0 57 [some (.ref (G.1 12 0)), some (.ref (G.1 1 j2)), some (.int x16), some (.int x25)] [.int x41] τ38
        exact m_zret C hr (nar_z b42) hlk (by decide) (by decide) dX6_readStone_57 ⟨_, rfl, i39, g43, b42⟩
      · have f45 : x25.toInt = -1 := by
          have q : _ := c29
          simp only [ti_nle, ti_nlt, ti_le, ti_lt, ti_eq, ti_ne, Classical.not_not, kt_m1] at q
          omega
        have b46 : IV x25 (-1) (-1) := ⟨by have q1 := b26; have q2 := kc_m1; omega, by have q1 := b26; have q2 := kc_m1; omega⟩
        refine m_iconst (v := 0) C dX6_readStone_45 (by decide) ?_
        exact m_zret C hr rfl hlk (by decide) (by decide) dX6_readStone_46 ⟨_, rfl, i23, g27, (iv_wk kc_0 (by decide))⟩
    · have f47 : x16.toInt = -1 := by
        have q : _ := c20
        simp only [ti_nle, ti_nlt, ti_le, ti_lt, ti_eq, ti_ne, Classical.not_not, kt_m1] at q
        omega
      have b48 : IV x16 (-1) (-1) := ⟨by have q1 := b17; have q2 := kc_m1; omega, by have q1 := b17; have q2 := kc_m1; omega⟩
      refine m_iconst (v := 0) C dX6_readStone_31 (by decide) ?_
      exact m_zret C hr rfl hlk (by decide) (by decide) dX6_readStone_32 ⟨_, rfl, i14, g18, (iv_wk kc_0 (by decide))⟩
  · have f49 : 4 ≤ x1.toInt := by
      have q : _ := c3
      simp only [ti_nle, ti_nlt, ti_le, ti_lt, ti_eq, ti_ne, Classical.not_not, kt_4] at q
      omega
    have b50 : IV x1 4 4 := ⟨by have q1 := kc_4; have q2 := b2; omega, by have q1 := kc_4; have q2 := b2; omega⟩
    refine m_aload_n C dX6_readStone_8 rfl rfl ?_
    refine m_iconst (v := 3) C dX6_readStone_9 (by decide) ?_
    refine m_callV (n := 1) (ci := 5) (st := []) C (c_X6_refuse l G σ (3) hI ) (by decide) (by decide) rfl rfl rfl q2_141 q2_138 q2_140 q0_8 q1_2 (by decide +kernel) rfl (by decide) (by decide) rfl (Nat.le_of_ble_eq_true rfl) dX6_readStone_10 ?_
    rintro _ τ51 ⟨x54, rfl, i52, f53, b55⟩
    have g56 : Fr MS_X6_readStone AS_X6_readStone σ τ51 := Fr.call (Fr.rf) f53 (by decide)
    show MW p l e _ s m args below meth c _ 4 G 0 0 13 [some (.ref (G.1 12 0)), some (.ref (G.1 1 j2)), none, none] [.int x54] τ51
    exact m_zret C hr (nar_z (iv_wk b55 (by decide))) hlk (by decide) (by decide) dX6_readStone_13 ⟨_, rfl, i52, g56, (iv_wk b55 (by decide))⟩

abbrev MS_X6_readInto : List (Nat × Nat) := [(1, 0), (1, 1), (1, 2), (1, 3), (1, 9), (1, 10), (1, 11), (12, 1), (12, 2), (12, 3), (12, 4), (12, 5), (12, 6), (12, 7)]
abbrev AS_X6_readInto : List Nat := [2, 3, 4, 5, 6, 99]
set_option maxHeartbeats 4000000 in
set_option maxRecDepth 100000 in
theorem c_X6_readInto (l : Launch) (G : Gt) (σ : Sg) {j2 : Nat} (hj2 : j2 < 28) (hI : Inv σ) : Mc l G yX6_readInto cX6_readInto 4 (some .boolean) 7 158 8 24 [.ref (G.1 12 0), .ref (G.1 1 j2)] σ (PI fun r τ => Inv τ ∧ Fr MS_X6_readInto AS_X6_readInto σ τ ∧ IV r 0 1) := by
  refine Mc.of (L0 := [some (.ref (G.1 12 0)), some (.ref (G.1 1 j2)), none, none]) (by decide) (Nat.le_of_ble_eq_true rfl) rfl ?_
  intro p e s m args below meth c C hr hlk
  have C : Cx p s m args c cX6_readInto 4 "LeanTower$Reader" := C
  have k0 : (0 : Int32).toInt = 0 := by decide
  have k1 : (1 : Int32).toInt = 1 := by decide
  have J84 : ∀ (τ : Sg) (y2 : Int32), Inv τ → Fr MS_X6_readInto AS_X6_readInto σ τ → IV y2 0 1 → MW p l e { frames := 7, cells := 8, slots := 24, locals := 158 } s m args below meth c (MQ below (QP G (PI fun r τ => Inv τ ∧ Fr MS_X6_readInto AS_X6_readInto σ τ ∧ IV r 0 1)) args s 8 24 (aG G)) 4 G 8 24 84 [some (.ref (G.1 12 0)), none, some (.int y2), none] [] τ := by
    intro τ y2 iτ fτ b_y2
    refine m_iload_n C dX6_readInto_84 rfl rfl ?_
    refine m_if_eq (tgt := 107) C dX6_readInto_85 (by decide) (fun c1 => ?_) (fun c1 => ?_)
    · have f2 : y2.toInt = 0 := by
        have q : _ := c1
        simp only [ti_nle, ti_nlt, ti_le, ti_lt, ti_eq, ti_ne, Classical.not_not, kt_0] at q
        omega
      have b3 : IV y2 0 0 := ⟨by have q1 := b_y2; have q2 := kc_0; omega, by have q1 := b_y2; have q2 := kc_0; omega⟩
      refine m_iconst (v := 0) C dX6_readInto_107 (by decide) ?_
      refine m_istore_n (L1 := [some (.ref (G.1 12 0)), none, some (.int 0), none]) C dX6_readInto_108 rfl (by decide) rfl rfl ?_
      refine m_aload_n C dX6_readInto_109 rfl rfl ?_
      refine m_iconst (v := 0) C dX6_readInto_110 (by decide) ?_
      refine p_12_1 C q1_38 dX6_readInto_111 ?_
      refine m_tops (fun τ4 eτ4 => ?_)
      have i5 : Inv τ4 := eτ4 ▸ Inv.put iτ (by decide) (iv_wk kc_0 (by decide))
      have f6 : Fr MS_X6_readInto AS_X6_readInto σ τ4 := eτ4 ▸ Fr.put (fτ) (Or.inl (by decide))
      refine m_iload_n C dX6_readInto_114 rfl rfl ?_
      exact m_zret C hr rfl hlk (by decide) (by decide) dX6_readInto_115 ⟨_, rfl, i5, f6, (iv_wk kc_0 (by decide))⟩
    · have f7 : y2.toInt ≠ 0 := by
        have q : _ := c1
        simp only [ti_nle, ti_nlt, ti_le, ti_lt, ti_eq, ti_ne, Classical.not_not, kt_0] at q
        omega
      have b8 : IV y2 1 1 := ⟨by have q1 := b_y2; have q2 := kc_0; omega, by have q1 := b_y2; have q2 := kc_0; omega⟩
      refine m_aload_n C dX6_readInto_88 rfl rfl ?_
      refine g_12_6 C q1_46 dX6_readInto_89 ?_
      refine m_topi (fun x9 ex9 => ?_)
      refine m_if_eq (tgt := 103) C dX6_readInto_92 (by decide) (fun c10 => ?_) (fun c10 => ?_)
      · have f11 : x9.toInt = 0 := by
          have q : _ := c10
          simp only [ti_nle, ti_nlt, ti_le, ti_lt, ti_eq, ti_ne, Classical.not_not, kt_0] at q
          omega
        have b12 : IV x9 0 0 := ⟨by have q1 := (iv_any x9); have q2 := kc_0; omega, by have q1 := (iv_any x9); have q2 := kc_0; omega⟩
        refine m_iconst (v := 1) C dX6_readInto_103 (by decide) ?_
        refine m_goto (tgt := 108) C dX6_readInto_104 (by decide) ?_
        refine m_istore_n (L1 := [some (.ref (G.1 12 0)), none, some (.int 1), none]) C dX6_readInto_108 rfl (by decide) rfl rfl ?_
        refine m_aload_n C dX6_readInto_109 rfl rfl ?_
        refine m_iconst (v := 0) C dX6_readInto_110 (by decide) ?_
        refine p_12_1 C q1_38 dX6_readInto_111 ?_
        refine m_tops (fun τ13 eτ13 => ?_)
        have i14 : Inv τ13 := eτ13 ▸ Inv.put iτ (by decide) (iv_wk kc_0 (by decide))
        have f15 : Fr MS_X6_readInto AS_X6_readInto σ τ13 := eτ13 ▸ Fr.put (fτ) (Or.inl (by decide))
        refine m_iload_n C dX6_readInto_114 rfl rfl ?_
        exact m_zret C hr rfl hlk (by decide) (by decide) dX6_readInto_115 ⟨_, rfl, i14, f15, (iv_wk kc_1 (by decide))⟩
      · have f16 : x9.toInt ≠ 0 := by
          have q : _ := c10
          simp only [ti_nle, ti_nlt, ti_le, ti_lt, ti_eq, ti_ne, Classical.not_not, kt_0] at q
          omega
        refine m_aload_n C dX6_readInto_95 rfl rfl ?_
        refine m_iconst (v := 1) C dX6_readInto_96 (by decide) ?_
        refine m_callV (n := 1) (ci := 5) (st := []) C (c_X6_refuse l G τ (1) iτ ) (by decide) (by decide) rfl rfl rfl q2_141 q2_138 q2_140 q0_8 q1_2 (by decide +kernel) rfl (by decide) (by decide) rfl (Nat.le_of_ble_eq_true rfl) dX6_readInto_97 ?_
        rintro _ τ17 ⟨x20, rfl, i18, f19, b21⟩
        have g22 : Fr MS_X6_readInto AS_X6_readInto σ τ17 := Fr.call (fτ) f19 (by decide)
        show MW p l e _ s m args below meth c _ 4 G 8 24 100 [some (.ref (G.1 12 0)), none, some (.int y2), none] [.int x20] τ17
        refine m_if_eq (tgt := 107) C dX6_readInto_100 (by decide) (fun c24 => ?_) (fun c24 => ?_)
        · have f25 : x20.toInt = 0 := by
            have q : _ := c24
            simp only [ti_nle, ti_nlt, ti_le, ti_lt, ti_eq, ti_ne, Classical.not_not, kt_0] at q
            omega
          refine m_iconst (v := 0) C dX6_readInto_107 (by decide) ?_
          refine m_istore_n (L1 := [some (.ref (G.1 12 0)), none, some (.int 0), none]) C dX6_readInto_108 rfl (by decide) rfl rfl ?_
          refine m_aload_n C dX6_readInto_109 rfl rfl ?_
          refine m_iconst (v := 0) C dX6_readInto_110 (by decide) ?_
          refine p_12_1 C q1_38 dX6_readInto_111 ?_
          refine m_tops (fun τ26 eτ26 => ?_)
          have i27 : Inv τ26 := eτ26 ▸ Inv.put i18 (by decide) (iv_wk kc_0 (by decide))
          have f28 : Fr MS_X6_readInto AS_X6_readInto σ τ26 := eτ26 ▸ Fr.put (g22) (Or.inl (by decide))
          refine m_iload_n C dX6_readInto_114 rfl rfl ?_
          exact m_zret C hr rfl hlk (by decide) (by decide) dX6_readInto_115 ⟨_, rfl, i27, f28, (iv_wk kc_0 (by decide))⟩
        · exfalso
          have q : _ := c24
          simp only [ti_nle, ti_nlt, ti_le, ti_lt, ti_eq, ti_ne, Classical.not_not, kt_0] at q
          have q1 := b21; have q2 := kc_0; omega
  have J54 : ∀ (n : Nat) (τ : Sg) (y2 : Int32) (y3 : Int32), Inv τ → Fr MS_X6_readInto AS_X6_readInto σ τ → IV y2 0 1 → IV y3 0 5 → (5 - y3.toInt).toNat < n → MW p l e { frames := 7, cells := 8, slots := 24, locals := 158 } s m args below meth c (MQ below (QP G (PI fun r τ => Inv τ ∧ Fr MS_X6_readInto AS_X6_readInto σ τ ∧ IV r 0 1)) args s 8 24 (aG G)) 4 G 8 24 54 [some (.ref (G.1 12 0)), some (.ref (G.1 1 j2)), some (.int y2), some (.int y3)] [] τ := by
    intro n
    induction n with
    | zero => intro τ y2 y3 iτ fτ b_y2 b_y3 hm; exact absurd hm (Nat.not_lt_zero _)
    | succ n ih54 =>
      intro τ y2 y3 iτ fτ b_y2 b_y3 hm54
      refine m_iload_n C dX6_readInto_54 rfl rfl ?_
      refine m_if_eq (tgt := 84) C dX6_readInto_55 (by decide) (fun c30 => ?_) (fun c30 => ?_)
      · have f31 : y2.toInt = 0 := by
          have q : _ := c30
          simp only [ti_nle, ti_nlt, ti_le, ti_lt, ti_eq, ti_ne, Classical.not_not, kt_0] at q
          omega
        have b32 : IV y2 0 0 := ⟨by have q1 := b_y2; have q2 := kc_0; omega, by have q1 := b_y2; have q2 := kc_0; omega⟩
        refine m_widen (c2 := 8) (s2 := 24) (by omega) (by omega) ?_
        refine m_sub (L1 := [some (.ref (G.1 12 0)), none, some (.int y2), none]) ⟨rfl, ⟨rfl, trivial⟩⟩ ?_
        exact J84 τ y2 iτ fτ (iv_wk b32 (by decide))
      · have f33 : y2.toInt ≠ 0 := by
          have q : _ := c30
          simp only [ti_nle, ti_nlt, ti_le, ti_lt, ti_eq, ti_ne, Classical.not_not, kt_0] at q
          omega
        have b34 : IV y2 1 1 := ⟨by have q1 := b_y2; have q2 := kc_0; omega, by have q1 := b_y2; have q2 := kc_0; omega⟩
        refine m_iload_n C dX6_readInto_58 rfl rfl ?_
        refine m_iconst (v := 4) C dX6_readInto_59 (by decide) ?_
        refine m_icmp_gt (tgt := 84) C dX6_readInto_60 (by decide) (fun c35 => ?_) (fun c35 => ?_)
        · have f36 : 4 < y3.toInt := by
            have q : _ := c35
            simp only [ti_nle, ti_nlt, ti_le, ti_lt, ti_eq, ti_ne, Classical.not_not, kt_4] at q
            omega
          have b37 : IV y3 5 5 := ⟨by have q1 := kc_4; have q2 := b_y3; omega, by have q1 := kc_4; have q2 := b_y3; omega⟩
          refine m_widen (c2 := 8) (s2 := 24) (by omega) (by omega) ?_
          refine m_sub (L1 := [some (.ref (G.1 12 0)), none, some (.int y2), none]) ⟨rfl, ⟨rfl, trivial⟩⟩ ?_
          exact J84 τ y2 iτ fτ (iv_wk b34 (by decide))
        · have f38 : y3.toInt ≤ 4 := by
            have q : _ := c35
            simp only [ti_nle, ti_nlt, ti_le, ti_lt, ti_eq, ti_ne, Classical.not_not, kt_4] at q
            omega
          have b39 : IV y3 0 4 := ⟨by have q1 := b_y3; have q2 := kc_4; omega, by have q1 := b_y3; have q2 := kc_4; omega⟩
          refine m_aload_n C dX6_readInto_63 rfl rfl ?_
          refine s_ldc (w := 7) (tx := "") C rfl (by decide) rfl dX6_readInto_64 ?_
          refine m_callV (n := 1) (ci := 5) (st := []) C (c_X6_isWord l G τ (w := 7) (by decide) iτ ) (by decide) (by decide) rfl rfl rfl q2_89 q2_86 q2_88 q0_7 q1_2 (by decide +kernel) rfl (by decide) (by decide) rfl (Nat.le_of_ble_eq_true rfl) dX6_readInto_66 ?_
          rintro _ τ40 ⟨x43, rfl, i41, f42, b44⟩
          have g45 : Fr MS_X6_readInto AS_X6_readInto σ τ40 := Fr.call (fτ) f42 (by decide)
          show MW p l e _ s m args below meth c _ 4 G 8 24 69 [some (.ref (G.1 12 0)), some (.ref (G.1 1 j2)), some (.int y2), some (.int y3)] [.int x43] τ40
          refine m_if_eq (tgt := 84) C dX6_readInto_69 (by decide) (fun c47 => ?_) (fun c47 => ?_)
          · have f48 : x43.toInt = 0 := by
              have q : _ := c47
              simp only [ti_nle, ti_nlt, ti_le, ti_lt, ti_eq, ti_ne, Classical.not_not, kt_0] at q
              omega
            have b49 : IV x43 0 0 := ⟨by have q1 := b44; have q2 := kc_0; omega, by have q1 := b44; have q2 := kc_0; omega⟩
            refine m_widen (c2 := 8) (s2 := 24) (by omega) (by omega) ?_
            refine m_sub (L1 := [some (.ref (G.1 12 0)), none, some (.int y2), none]) ⟨rfl, ⟨rfl, trivial⟩⟩ ?_
            exact J84 τ40 y2 i41 g45 (iv_wk b34 (by decide))
          · have f50 : x43.toInt ≠ 0 := by
              have q : _ := c47
              simp only [ti_nle, ti_nlt, ti_le, ti_lt, ti_eq, ti_ne, Classical.not_not, kt_0] at q
              omega
            have b51 : IV x43 1 1 := ⟨by have q1 := b44; have q2 := kc_0; omega, by have q1 := b44; have q2 := kc_0; omega⟩
            refine m_aload_n C dX6_readInto_72 rfl rfl ?_
            refine m_aload_n C dX6_readInto_73 rfl rfl ?_
            refine m_callV (n := 1) (ci := 5) (st := []) C (c_X6_readStone l G τ40 (j2 := j2) hj2 i41 ) (by decide) (by decide) rfl rfl rfl q3_0 q2_237 q2_239 q0_13 q1_2 (by decide +kernel) rfl (by decide) (by decide) rfl (Nat.le_of_ble_eq_true rfl) dX6_readInto_74 ?_
            rintro _ τ52 ⟨x55, rfl, i53, f54, b56⟩
            have g57 : Fr MS_X6_readInto AS_X6_readInto σ τ52 := Fr.call (g45) f54 (by decide)
            show MW p l e _ s m args below meth c _ 4 G 8 24 77 [some (.ref (G.1 12 0)), some (.ref (G.1 1 j2)), some (.int y2), some (.int y3)] [.int x55] τ52
            refine m_istore_n (L1 := [some (.ref (G.1 12 0)), some (.ref (G.1 1 j2)), some (.int x55), some (.int y3)]) C dX6_readInto_77 rfl (by decide) rfl rfl ?_
            obtain ⟨x59, ex59⟩ : ∃ y : Int32, y = y3 + 1 := ⟨_, rfl⟩
            have tx59 : x59.toInt = y3.toInt + 1 := by rw [ex59, ti_addv b39 kc_1 (by decide), kt_1]
            have b60 : IV x59 1 5 := by rw [ex59]; exact iv_add b39 kc_1 (by decide)
            refine m_iinc (v := x59) (L1 := [some (.ref (G.1 12 0)), some (.ref (G.1 1 j2)), some (.int x55), some (.int x59)]) C dX6_readInto_78 rfl (by rw [ex59]; rfl) (by decide) rfl rfl ?_
            refine m_goto (tgt := 54) C dX6_readInto_81 (by decide) ?_
            refine m_widen (c2 := 8) (s2 := 24) (by omega) (by omega) ?_
            exact ih54 τ52 x55 x59 i53 g57 b56 (iv_wk b60 (by decide)) (by have q := hm54; omega)
  have J52 : ∀ (τ : Sg) (y2 : Int32), Inv τ → Fr MS_X6_readInto AS_X6_readInto σ τ → IV y2 0 1 → MW p l e { frames := 7, cells := 8, slots := 24, locals := 158 } s m args below meth c (MQ below (QP G (PI fun r τ => Inv τ ∧ Fr MS_X6_readInto AS_X6_readInto σ τ ∧ IV r 0 1)) args s 8 24 (aG G)) 4 G 8 24 52 [some (.ref (G.1 12 0)), some (.ref (G.1 1 j2)), some (.int y2), none] [] τ := by
    intro τ y2 iτ fτ b_y2
    refine m_iconst (v := 0) C dX6_readInto_52 (by decide) ?_
    refine m_istore_n (L1 := [some (.ref (G.1 12 0)), some (.ref (G.1 1 j2)), some (.int y2), some (.int 0)]) C dX6_readInto_53 rfl (by decide) rfl rfl ?_
    refine m_widen (c2 := 8) (s2 := 24) (by omega) (by omega) ?_
    exact J54 ((5 - (0 : Int32).toInt).toNat + 1) τ y2 0 iτ fτ b_y2 (iv_wk kc_0 (by decide)) (Nat.lt_succ_self _)
  have J21 : ∀ (n : Nat) (τ : Sg) (y2 : Int32) (y3 : Int32), Inv τ → Fr MS_X6_readInto AS_X6_readInto σ τ → IV y2 0 1 → IV y3 0 8 → (8 - y3.toInt).toNat < n → MW p l e { frames := 7, cells := 8, slots := 24, locals := 158 } s m args below meth c (MQ below (QP G (PI fun r τ => Inv τ ∧ Fr MS_X6_readInto AS_X6_readInto σ τ ∧ IV r 0 1)) args s 8 24 (aG G)) 4 G (y3.toInt.toNat) (3 * y3.toInt.toNat) 21 [some (.ref (G.1 12 0)), some (.ref (G.1 1 j2)), some (.int y2), some (.int y3)] [] τ := by
    intro n
    induction n with
    | zero => intro τ y2 y3 iτ fτ b_y2 b_y3 hm; exact absurd hm (Nat.not_lt_zero _)
    | succ n ih21 =>
      intro τ y2 y3 iτ fτ b_y2 b_y3 hm21
      refine m_iload_n C dX6_readInto_21 rfl rfl ?_
      refine m_if_eq (tgt := 52) C dX6_readInto_22 (by decide) (fun c61 => ?_) (fun c61 => ?_)
      · have f62 : y2.toInt = 0 := by
          have q : _ := c61
          simp only [ti_nle, ti_nlt, ti_le, ti_lt, ti_eq, ti_ne, Classical.not_not, kt_0] at q
          omega
        have b63 : IV y2 0 0 := ⟨by have q1 := b_y2; have q2 := kc_0; omega, by have q1 := b_y2; have q2 := kc_0; omega⟩
        refine m_widen (c2 := 8) (s2 := 24) (by omega) (by omega) ?_
        refine m_sub (L1 := [some (.ref (G.1 12 0)), some (.ref (G.1 1 j2)), some (.int y2), none]) ⟨rfl, ⟨rfl, ⟨rfl, trivial⟩⟩⟩ ?_
        exact J52 τ y2 iτ fτ (iv_wk b63 (by decide))
      · have f64 : y2.toInt ≠ 0 := by
          have q : _ := c61
          simp only [ti_nle, ti_nlt, ti_le, ti_lt, ti_eq, ti_ne, Classical.not_not, kt_0] at q
          omega
        have b65 : IV y2 1 1 := ⟨by have q1 := b_y2; have q2 := kc_0; omega, by have q1 := b_y2; have q2 := kc_0; omega⟩
        refine m_iload_n C dX6_readInto_25 rfl rfl ?_
        refine m_bipush (v := 7) C dX6_readInto_26 (by decide) ?_
        refine m_icmp_gt (tgt := 52) C dX6_readInto_28 (by decide) (fun c66 => ?_) (fun c66 => ?_)
        · have f67 : 7 < y3.toInt := by
            have q : _ := c66
            simp only [ti_nle, ti_nlt, ti_le, ti_lt, ti_eq, ti_ne, Classical.not_not, kt_7] at q
            omega
          have b68 : IV y3 8 8 := ⟨by have q1 := kc_7; have q2 := b_y3; omega, by have q1 := kc_7; have q2 := b_y3; omega⟩
          refine m_widen (c2 := 8) (s2 := 24) (by omega) (by omega) ?_
          refine m_sub (L1 := [some (.ref (G.1 12 0)), some (.ref (G.1 1 j2)), some (.int y2), none]) ⟨rfl, ⟨rfl, ⟨rfl, trivial⟩⟩⟩ ?_
          exact J52 τ y2 iτ fτ (iv_wk b65 (by decide))
        · have f69 : y3.toInt ≤ 7 := by
            have q : _ := c66
            simp only [ti_nle, ti_nlt, ti_le, ti_lt, ti_eq, ti_ne, Classical.not_not, kt_7] at q
            omega
          have b70 : IV y3 0 7 := ⟨by have q1 := b_y3; have q2 := kc_7; omega, by have q1 := b_y3; have q2 := kc_7; omega⟩
          refine m_aload_n C dX6_readInto_31 rfl rfl ?_
          refine s_ldc (w := 1) (tx := "") C rfl (by decide) rfl dX6_readInto_32 ?_
          refine m_callV (n := 1) (ci := 5) (st := []) C (c_X6_isWord l G τ (w := 1) (by decide) iτ ) (by decide) (by decide) rfl rfl rfl q2_89 q2_86 q2_88 q0_7 q1_2 (by decide +kernel) rfl (by decide) ⟨by show (y3.toInt.toNat) + 0 ≤ 8; omega, by show (3 * y3.toInt.toNat) + 0 ≤ 24; omega⟩ rfl (Nat.le_of_ble_eq_true rfl) dX6_readInto_34 ?_
          rintro _ τ71 ⟨x74, rfl, i72, f73, b75⟩
          have g76 : Fr MS_X6_readInto AS_X6_readInto σ τ71 := Fr.call (fτ) f73 (by decide)
          show MW p l e _ s m args below meth c _ 4 G (y3.toInt.toNat) (3 * y3.toInt.toNat) 37 [some (.ref (G.1 12 0)), some (.ref (G.1 1 j2)), some (.int y2), some (.int y3)] [.int x74] τ71
          refine m_if_eq (tgt := 52) C dX6_readInto_37 (by decide) (fun c78 => ?_) (fun c78 => ?_)
          · have f79 : x74.toInt = 0 := by
              have q : _ := c78
              simp only [ti_nle, ti_nlt, ti_le, ti_lt, ti_eq, ti_ne, Classical.not_not, kt_0] at q
              omega
            have b80 : IV x74 0 0 := ⟨by have q1 := b75; have q2 := kc_0; omega, by have q1 := b75; have q2 := kc_0; omega⟩
            refine m_widen (c2 := 8) (s2 := 24) (by omega) (by omega) ?_
            refine m_sub (L1 := [some (.ref (G.1 12 0)), some (.ref (G.1 1 j2)), some (.int y2), none]) ⟨rfl, ⟨rfl, ⟨rfl, trivial⟩⟩⟩ ?_
            exact J52 τ71 y2 i72 g76 (iv_wk b65 (by decide))
          · have f81 : x74.toInt ≠ 0 := by
              have q : _ := c78
              simp only [ti_nle, ti_nlt, ti_le, ti_lt, ti_eq, ti_ne, Classical.not_not, kt_0] at q
              omega
            have b82 : IV x74 1 1 := ⟨by have q1 := b75; have q2 := kc_0; omega, by have q1 := b75; have q2 := kc_0; omega⟩
            refine m_aload_n C dX6_readInto_40 rfl rfl ?_
            refine m_aload_n C dX6_readInto_41 rfl rfl ?_
            refine m_callV (n := 1) (ci := 5) (st := []) C (c_X6_readPerson l G τ71 (j2 := j2) hj2 i72 ) (by decide) (by decide) rfl rfl rfl q2_154 q2_151 q2_153 q0_11 q1_2 (by decide +kernel) rfl (by decide) ⟨by show (y3.toInt.toNat) + 1 ≤ 8; omega, by show (3 * y3.toInt.toNat) + 3 ≤ 24; omega⟩ rfl (Nat.le_of_ble_eq_true rfl) dX6_readInto_42 ?_
            rintro _ τ83 ⟨x86, rfl, i84, f85, b87⟩
            have g88 : Fr MS_X6_readInto AS_X6_readInto σ τ83 := Fr.call (g76) f85 (by decide)
            show MW p l e _ s m args below meth c _ 4 G ((y3.toInt.toNat) + 1) ((3 * y3.toInt.toNat) + 3) 45 [some (.ref (G.1 12 0)), some (.ref (G.1 1 j2)), some (.int y2), some (.int y3)] [.int x86] τ83
            refine m_istore_n (L1 := [some (.ref (G.1 12 0)), some (.ref (G.1 1 j2)), some (.int x86), some (.int y3)]) C dX6_readInto_45 rfl (by decide) rfl rfl ?_
            obtain ⟨x90, ex90⟩ : ∃ y : Int32, y = y3 + 1 := ⟨_, rfl⟩
            have tx90 : x90.toInt = y3.toInt + 1 := by rw [ex90, ti_addv b70 kc_1 (by decide), kt_1]
            have b91 : IV x90 1 8 := by rw [ex90]; exact iv_add b70 kc_1 (by decide)
            refine m_iinc (v := x90) (L1 := [some (.ref (G.1 12 0)), some (.ref (G.1 1 j2)), some (.int x86), some (.int x90)]) C dX6_readInto_46 rfl (by rw [ex90]; rfl) (by decide) rfl rfl ?_
            refine m_goto (tgt := 21) C dX6_readInto_49 (by decide) ?_
            refine m_widen (c2 := (x90.toInt.toNat)) (s2 := (3 * x90.toInt.toNat)) (by omega) (by omega) ?_
            exact ih21 τ83 x86 x90 i84 g88 b87 (iv_wk b91 (by decide)) (by have q := hm21; omega)
  refine m_aload_n C dX6_readInto_0 rfl rfl ?_
  refine m_callV (n := 0) (ci := 7) (st := []) C (c_X8_clear l G σ (j := j2) hj2  hI ) (by decide) hj2 rfl rfl rfl q2_59 q2_56 q2_57 q2_58 q1_3 (by decide +kernel) rfl (by decide) (by decide) rfl (Nat.le_of_ble_eq_true rfl) dX6_readInto_1 ?_
  rintro _ τ92 ⟨rfl, i93, f94⟩
  have g97 : Fr MS_X6_readInto AS_X6_readInto σ τ92 := Fr.call (Fr.rf) f94 (by decide)
  show MW p l e _ s m args below meth c _ 4 G 0 0 4 [some (.ref (G.1 12 0)), some (.ref (G.1 1 j2)), none, none] [] τ92
  refine m_aload_n C dX6_readInto_4 rfl rfl ?_
  refine m_iconst (v := 0) C dX6_readInto_5 (by decide) ?_
  refine p_12_5 C q1_45 dX6_readInto_6 ?_
  refine m_tops (fun τ99 eτ99 => ?_)
  have i100 : Inv τ99 := eτ99 ▸ Inv.put i93 (by decide) (iv_wk kc_0 (by decide))
  have f101 : Fr MS_X6_readInto AS_X6_readInto σ τ99 := eτ99 ▸ Fr.put (g97) (Or.inl (by decide))
  refine m_aload_n C dX6_readInto_9 rfl rfl ?_
  refine m_callV (n := 0) (ci := 5) (st := []) C (c_X6_next l G τ99  i100 ) (by decide) (by decide) rfl rfl rfl q2_63 q2_60 q2_62 q0_3 q1_2 (by decide +kernel) rfl (by decide) (by decide) rfl (Nat.le_of_ble_eq_true rfl) dX6_readInto_10 ?_
  rintro _ τ102 ⟨rfl, i103, f104⟩
  have g107 : Fr MS_X6_readInto AS_X6_readInto σ τ102 := Fr.call (f101) f104 (by decide)
  show MW p l e _ s m args below meth c _ 4 G 0 0 13 [some (.ref (G.1 12 0)), some (.ref (G.1 1 j2)), none, none] [] τ102
  refine m_aload_n C dX6_readInto_13 rfl rfl ?_
  refine m_aload_n C dX6_readInto_14 rfl rfl ?_
  refine m_callV (n := 1) (ci := 5) (st := []) C (c_X6_readLaw l G τ102 (j2 := j2) hj2 i103 ) (by decide) (by decide) rfl rfl rfl q2_84 q2_81 q2_83 q0_6 q1_2 (by decide +kernel) rfl (by decide) (by decide) rfl (Nat.le_of_ble_eq_true rfl) dX6_readInto_15 ?_
  rintro _ τ109 ⟨x112, rfl, i110, f111, b113⟩
  have g114 : Fr MS_X6_readInto AS_X6_readInto σ τ109 := Fr.call (g107) f111 (by decide)
  show MW p l e _ s m args below meth c _ 4 G 0 0 18 [some (.ref (G.1 12 0)), some (.ref (G.1 1 j2)), none, none] [.int x112] τ109
  refine m_istore_n (L1 := [some (.ref (G.1 12 0)), some (.ref (G.1 1 j2)), some (.int x112), none]) C dX6_readInto_18 rfl (by decide) rfl rfl ?_
  refine m_iconst (v := 0) C dX6_readInto_19 (by decide) ?_
  refine m_istore_n (L1 := [some (.ref (G.1 12 0)), some (.ref (G.1 1 j2)), some (.int x112), some (.int 0)]) C dX6_readInto_20 rfl (by decide) rfl rfl ?_
  refine m_widen (c2 := ((0 : Int32).toInt.toNat)) (s2 := (3 * (0 : Int32).toInt.toNat)) (by omega) (by omega) ?_
  exact J21 ((8 - (0 : Int32).toInt).toNat + 1) τ109 x112 0 i110 g114 b113 (iv_wk kc_0 (by decide)) (Nat.lt_succ_self _)

abbrev MS_X0_ringFrom_0 : List (Nat × Nat) := [(16, 4)]
abbrev AS_X0_ringFrom_0 : List Nat := [19]
set_option maxHeartbeats 4000000 in
set_option maxRecDepth 100000 in
theorem c_X0_ringFrom_0 (l : Launch) (G : Gt) (σ : Sg) (a1 : Int32) (a2 : Int32) (a3 : Int32) (a4 : Int32) (hI : Inv σ) (ha1 : IV a1 5 5) : Mc l G yX0_ringFrom cX0_ringFrom 8 none 1 60 0 0 [.ref (G.1 16 0), .int a1, .int a2, .int a3, .int a4] σ (PV fun τ => Inv τ ∧ Fr MS_X0_ringFrom_0 AS_X0_ringFrom_0 σ τ) := by
  refine Mc.of (L0 := [some (.ref (G.1 16 0)), some (.int a1), some (.int a2), some (.int a3), some (.int a4), none, none, none]) (by decide) (Nat.le_of_ble_eq_true rfl) rfl ?_
  intro p e s m args below meth c C hr hlk
  have C : Cx p s m args c cX0_ringFrom 8 "LeanTower$Bells" := C
  have k0 : (0 : Int32).toInt = 0 := by decide
  have k1 : (1 : Int32).toInt = 1 := by decide
  refine m_iload C dX0_ringFrom_0 rfl ?_
  refine m_aload_n C dX0_ringFrom_2 rfl rfl ?_
  refine g_16_4 C q1_154 dX0_ringFrom_3 ?_
  refine m_topi (fun x1 ex1 => ?_)
  refine m_icmp_lt (tgt := 10) C dX0_ringFrom_6 (by decide) (fun c2 => ?_) (fun c2 => ?_)
  · have f3 : a4.toInt < x1.toInt := by
      have q : _ := c2
      simp only [ti_nle, ti_nlt, ti_le, ti_lt, ti_eq, ti_ne, Classical.not_not] at q
      omega
    have b4 : IV a4 (-2147483648) 2147483646 := ⟨by have q1 := (iv_any a4); have q2 := (iv_any x1); omega, by have q1 := (iv_any a4); have q2 := (iv_any x1); omega⟩
    have b5 : IV x1 (-2147483647) 2147483647 := ⟨by have q1 := (iv_any a4); have q2 := (iv_any x1); omega, by have q1 := (iv_any a4); have q2 := (iv_any x1); omega⟩
    refine m_iload_n C dX0_ringFrom_10 rfl rfl ?_
    refine m_aload_n C dX0_ringFrom_11 rfl rfl ?_
    refine g_16_2 C q1_151 dX0_ringFrom_12 ?_
    refine m_topi (fun x6 ex6 => ?_)
    have b7 : IV x6 0 5 := by rw [ex6]; exact hI.1 16 0 2
    refine m_icmp_lt (tgt := 42) C dX0_ringFrom_15 (by decide) (fun c8 => ?_) (fun c8 => ?_)
    · exfalso
      have q : _ := c8
      simp only [ti_nle, ti_nlt, ti_le, ti_lt, ti_eq, ti_ne, Classical.not_not] at q
      have q1 := ha1; have q2 := b7; omega
    · have f10 : x6.toInt ≤ a1.toInt := by
        have q : _ := c8
        simp only [ti_nle, ti_nlt, ti_le, ti_lt, ti_eq, ti_ne, Classical.not_not] at q
        omega
      refine m_aload_n C dX0_ringFrom_18 rfl rfl ?_
      refine m_iload C dX0_ringFrom_19 rfl ?_
      refine p_16_4 C q1_154 dX0_ringFrom_21 ?_
      refine m_tops (fun τ11 eτ11 => ?_)
      have i12 : Inv τ11 := eτ11 ▸ Inv.putF hI (by decide) rfl
      have f13 : Fr MS_X0_ringFrom_0 AS_X0_ringFrom_0 σ τ11 := eτ11 ▸ Fr.put (Fr.rf) (Or.inl (by decide))
      refine m_aload_n C dX0_ringFrom_24 rfl rfl ?_
      refine g_16_1 C q1_150 dX0_ringFrom_25 ?_
      refine m_iconst (v := 0) C dX0_ringFrom_28 (by decide) ?_
      refine m_aload_n C dX0_ringFrom_29 rfl rfl ?_
      refine g_16_3 C q1_152 dX0_ringFrom_30 ?_
      refine m_iconst (v := 0) C dX0_ringFrom_33 (by decide) ?_
      refine m_aload_n C dX0_ringFrom_34 rfl rfl ?_
      refine g_16_2 C q1_151 dX0_ringFrom_35 ?_
      refine m_eqs (w := x6) (show gV τ11 16 0 2 = x6 from gV_put eτ11 ex6.symm) ?_
      have q14 := b7
      have q15 := kt_0
      refine m_copy (t0 := 18) (n0 := 5) (t1 := 19) (n1 := 5) (st := []) C (by decide) (by decide) rfl (by decide) (by decide) (fun _ => rfl) ⟨by omega, by omega, by omega, by omega, by omega⟩ q3_234 q2_30 q2_29 q1_8 ⟨by decide, by decide +kernel⟩ dX0_ringFrom_38 ?_
      refine m_tops (fun τ16 eτ16 => ?_)
      have i17 : Inv τ16 := eτ16 ▸ Inv.putRow i12 (by decide) (fun _ => rfl)
      have f18 : Fr MS_X0_ringFrom_0 AS_X0_ringFrom_0 σ τ16 := eτ16 ▸ Fr.putRow (f13) (by decide)
      exact m_vret C hr hlk (by decide) (by decide) dX0_ringFrom_41 ⟨rfl, i17, f18⟩
  · have f19 : x1.toInt ≤ a4.toInt := by
      have q : _ := c2
      simp only [ti_nle, ti_nlt, ti_le, ti_lt, ti_eq, ti_ne, Classical.not_not] at q
      omega
    exact m_vret C hr hlk (by decide) (by decide) dX0_ringFrom_9 ⟨rfl, hI, Fr.rf⟩

abbrev MS_X0_ringFrom_1 : List (Nat × Nat) := [(16, 4)]
abbrev AS_X0_ringFrom_1 : List Nat := [18, 19]
set_option maxHeartbeats 4000000 in
set_option maxRecDepth 100000 in
theorem c_X0_ringFrom_1 (l : Launch) (G : Gt) (σ : Sg) (a1 : Int32) (a2 : Int32) (a3 : Int32) (a4 : Int32) (hI : Inv σ) (ha1 : IV a1 4 4) : Mc l G yX0_ringFrom cX0_ringFrom 8 none 2 87 0 0 [.ref (G.1 16 0), .int a1, .int a2, .int a3, .int a4] σ (PV fun τ => Inv τ ∧ Fr MS_X0_ringFrom_1 AS_X0_ringFrom_1 σ τ) := by
  refine Mc.of (L0 := [some (.ref (G.1 16 0)), some (.int a1), some (.int a2), some (.int a3), some (.int a4), none, none, none]) (by decide) (Nat.le_of_ble_eq_true rfl) rfl ?_
  intro p e s m args below meth c C hr hlk
  have C : Cx p s m args c cX0_ringFrom 8 "LeanTower$Bells" := C
  have k0 : (0 : Int32).toInt = 0 := by decide
  have k1 : (1 : Int32).toInt = 1 := by decide
  have J45 : ∀ (n : Nat) (τ : Sg) (y5 : Int32), Inv τ → Fr MS_X0_ringFrom_1 AS_X0_ringFrom_1 σ τ → IV a1 4 4 → IV a2 (-2147483648) 2147483647 → IV a3 (-2147483648) 2147483647 → IV a4 (-2147483648) 2147483646 → IV y5 0 5 → (5 - y5.toInt).toNat < n → MW p l e { frames := 2, cells := 0, slots := 0, locals := 87 } s m args below meth c (MQ below (QP G (PV fun τ => Inv τ ∧ Fr MS_X0_ringFrom_1 AS_X0_ringFrom_1 σ τ)) args s 0 0 (aG G)) 8 G 0 0 45 [some (.ref (G.1 16 0)), some (.int a1), some (.int a2), some (.int a3), some (.int a4), some (.int y5), none, none] [] τ := by
    intro n
    induction n with
    | zero => intro τ y5 iτ fτ b_a1 b_a2 b_a3 b_a4 b_y5 hm; exact absurd hm (Nat.not_lt_zero _)
    | succ n ih45 =>
      intro τ y5 iτ fτ b_a1 b_a2 b_a3 b_a4 b_y5 hm45
      have J98 : ∀ (τ : Sg) (z0 : Int32), Inv τ → Fr MS_X0_ringFrom_1 AS_X0_ringFrom_1 σ τ → IV a1 4 4 → IV a2 (-2147483648) 2147483647 → IV a3 (-2147483648) 2147483647 → IV a4 (-2147483648) 2147483646 → IV y5 0 4 → IV z0 (-2147483648) 2147483647 → MW p l e { frames := 2, cells := 0, slots := 0, locals := 87 } s m args below meth c (MQ below (QP G (PV fun τ => Inv τ ∧ Fr MS_X0_ringFrom_1 AS_X0_ringFrom_1 σ τ)) args s 0 0 (aG G)) 8 G 0 0 98 [some (.ref (G.1 16 0)), some (.int a1), some (.int a2), some (.int a3), some (.int a4), some (.int y5), none, none] [.int z0] τ := by
        intro τ z0 iτ fτ b_a1 b_a2 b_a3 b_a4 b_y5 b_z0
        refine m_istore (L1 := [some (.ref (G.1 16 0)), some (.int a1), some (.int a2), some (.int a3), some (.int a4), some (.int y5), some (.int z0), none]) C dX0_ringFrom_98 (by decide) rfl rfl ?_
        refine m_iload C dX0_ringFrom_100 rfl ?_
        refine m_iload C dX0_ringFrom_102 rfl ?_
        refine m_abs (st := [.int a4]) C q3_235 q3_66 q1_19 q3_67 ⟨by decide, Nat.le_of_ble_eq_true rfl⟩ (by decide) dX0_ringFrom_104 (fun x1 ex1 => ?_)
        refine m_max (st := []) C q3_236 q3_92 q1_19 q3_93 ⟨by decide, Nat.le_of_ble_eq_true rfl⟩ (by decide) dX0_ringFrom_107 (fun x2 ex2 => ?_)
        have tx2 : x2.toInt = max (a4.toInt) (x1.toInt) := by rw [ti_max ex2]
        refine m_istore (L1 := [some (.ref (G.1 16 0)), some (.int a1), some (.int a2), some (.int a3), some (.int a4), some (.int y5), some (.int z0), some (.int x2)]) C dX0_ringFrom_110 (by decide) rfl rfl ?_
        refine m_aload_n C dX0_ringFrom_112 rfl rfl ?_
        refine m_iload_n C dX0_ringFrom_113 rfl rfl ?_
        refine m_iconst (v := 1) C dX0_ringFrom_114 (by decide) ?_
        refine m_iadd C dX0_ringFrom_115 ?_
        refine m_topi (fun x3 ex3 => ?_)
        have tx3 : x3.toInt = a1.toInt + 1 := by rw [ex3, ti_addv b_a1 kc_1 (by decide), kt_1]
        have b4 : IV x3 5 5 := by rw [ex3]; exact iv_add b_a1 kc_1 (by decide)
        refine m_iload_n C dX0_ringFrom_116 rfl rfl ?_
        refine m_iconst (v := 1) C dX0_ringFrom_117 (by decide) ?_
        refine m_iload C dX0_ringFrom_118 rfl ?_
        refine m_ishl C dX0_ringFrom_120 ?_
        refine m_topi (fun x5 ex5 => ?_)
        have b6 : IV x5 1 16 := by rw [ex5]; exact iv_shl1 b_y5 (by decide)
        refine m_ior C dX0_ringFrom_121 ?_
        refine m_topi (fun x7 ex7 => ?_)
        refine m_iload C dX0_ringFrom_122 rfl ?_
        refine m_iload C dX0_ringFrom_124 rfl ?_
        refine m_callV (n := 4) (ci := 0) (st := []) C (c_X0_ringFrom_0 l G τ (x3) (x7) (z0) (x2) iτ b4) (by decide) (by decide) rfl rfl rfl q3_233 q3_230 q3_232 q0_24 q1_5 (by decide +kernel) rfl (by decide) (by decide) rfl (Nat.le_of_ble_eq_true rfl) dX0_ringFrom_126 ?_
        rintro _ τ8 ⟨rfl, i9, f10⟩
        have g13 : Fr MS_X0_ringFrom_1 AS_X0_ringFrom_1 σ τ8 := Fr.call (fτ) f10 (by decide)
        show MW p l e _ s m args below meth c _ 8 G 0 0 129 [some (.ref (G.1 16 0)), some (.int a1), some (.int a2), some (.int a3), some (.int a4), some (.int y5), some (.int z0), some (.int x2)] [] τ8
        obtain ⟨x15, ex15⟩ : ∃ y : Int32, y = y5 + 1 := ⟨_, rfl⟩
        have tx15 : x15.toInt = y5.toInt + 1 := by rw [ex15, ti_addv b_y5 kc_1 (by decide), kt_1]
        have b16 : IV x15 1 5 := by rw [ex15]; exact iv_add b_y5 kc_1 (by decide)
        refine m_iinc (v := x15) (L1 := [some (.ref (G.1 16 0)), some (.int a1), some (.int a2), some (.int a3), some (.int a4), some (.int x15), some (.int z0), some (.int x2)]) C dX0_ringFrom_129 rfl (by rw [ex15]; rfl) (by decide) rfl rfl ?_
        refine m_goto (tgt := 45) C dX0_ringFrom_132 (by decide) ?_
        refine m_sub (L1 := [some (.ref (G.1 16 0)), some (.int a1), some (.int a2), some (.int a3), some (.int a4), some (.int x15), none, none]) ⟨rfl, ⟨rfl, ⟨rfl, ⟨rfl, ⟨rfl, ⟨rfl, trivial⟩⟩⟩⟩⟩⟩ ?_
        exact ih45 τ8 x15 i9 g13 b_a1 b_a2 b_a3 b_a4 (iv_wk b16 (by decide)) (by have q := hm45; omega)
      refine m_iload C dX0_ringFrom_45 rfl ?_
      refine m_aload_n C dX0_ringFrom_47 rfl rfl ?_
      refine g_16_2 C q1_151 dX0_ringFrom_48 ?_
      refine m_topi (fun x17 ex17 => ?_)
      have b18 : IV x17 0 5 := by rw [ex17]; exact iτ.1 16 0 2
      refine m_icmp_ge (tgt := 135) C dX0_ringFrom_51 (by decide) (fun c19 => ?_) (fun c19 => ?_)
      · have f20 : x17.toInt ≤ y5.toInt := by
          have q : _ := c19
          simp only [ti_nle, ti_nlt, ti_le, ti_lt, ti_eq, ti_ne, Classical.not_not] at q
          omega
        exact m_vret C hr hlk (by decide) (by decide) dX0_ringFrom_135 ⟨rfl, iτ, fτ⟩
      · have f21 : y5.toInt < x17.toInt := by
          have q : _ := c19
          simp only [ti_nle, ti_nlt, ti_le, ti_lt, ti_eq, ti_ne, Classical.not_not] at q
          omega
        have b22 : IV y5 0 4 := ⟨by have q1 := b_y5; have q2 := b18; omega, by have q1 := b_y5; have q2 := b18; omega⟩
        have b23 : IV x17 1 5 := ⟨by have q1 := b_y5; have q2 := b18; omega, by have q1 := b_y5; have q2 := b18; omega⟩
        refine m_iload_n C dX0_ringFrom_54 rfl rfl ?_
        refine m_iload C dX0_ringFrom_55 rfl ?_
        refine m_ishr C dX0_ringFrom_57 ?_
        refine m_topi (fun x24 ex24 => ?_)
        refine m_iconst (v := 1) C dX0_ringFrom_58 (by decide) ?_
        refine m_iand C dX0_ringFrom_59 ?_
        refine m_topi (fun x25 ex25 => ?_)
        have b26 : IV x25 0 1 := by rw [ex25]; exact iv_and_r kc_1 (by decide)
        refine m_if_ne (tgt := 129) C dX0_ringFrom_60 (by decide) (fun c27 => ?_) (fun c27 => ?_)
        · have f28 : x25.toInt ≠ 0 := by
            have q : _ := c27
            simp only [ti_nle, ti_nlt, ti_le, ti_lt, ti_eq, ti_ne, Classical.not_not, kt_0] at q
            omega
          have b29 : IV x25 1 1 := ⟨by have q1 := b26; have q2 := kc_0; omega, by have q1 := b26; have q2 := kc_0; omega⟩
          obtain ⟨x30, ex30⟩ : ∃ y : Int32, y = y5 + 1 := ⟨_, rfl⟩
          have tx30 : x30.toInt = y5.toInt + 1 := by rw [ex30, ti_addv b22 kc_1 (by decide), kt_1]
          have b31 : IV x30 1 5 := by rw [ex30]; exact iv_add b22 kc_1 (by decide)
          refine m_iinc (v := x30) (L1 := [some (.ref (G.1 16 0)), some (.int a1), some (.int a2), some (.int a3), some (.int a4), some (.int x30), none, none]) C dX0_ringFrom_129 rfl (by rw [ex30]; rfl) (by decide) rfl rfl ?_
          refine m_goto (tgt := 45) C dX0_ringFrom_132 (by decide) ?_
          exact ih45 τ x30 iτ fτ b_a1 b_a2 b_a3 b_a4 (iv_wk b31 (by decide)) (by have q := hm45; omega)
        · have f32 : x25.toInt = 0 := by
            have q : _ := c27
            simp only [ti_nle, ti_nlt, ti_le, ti_lt, ti_eq, ti_ne, Classical.not_not, kt_0] at q
            omega
          have b33 : IV x25 0 0 := ⟨by have q1 := b26; have q2 := kc_0; omega, by have q1 := b26; have q2 := kc_0; omega⟩
          refine m_aload_n C dX0_ringFrom_63 rfl rfl ?_
          refine g_16_1 C q1_150 dX0_ringFrom_64 ?_
          refine m_iload_n C dX0_ringFrom_67 rfl rfl ?_
          refine m_iload C dX0_ringFrom_68 rfl ?_
          refine as_18 C b_a1 (by decide) rfl dX0_ringFrom_70 ?_
          refine m_tops (fun τ34 eτ34 => ?_)
          have i35 : Inv τ34 := eτ34 ▸ Inv.putF iτ (by decide) rfl
          have f36 : Fr MS_X0_ringFrom_1 AS_X0_ringFrom_1 σ τ34 := eτ34 ▸ Fr.put (fτ) (Or.inr (by decide))
          refine m_iload_n C dX0_ringFrom_71 rfl rfl ?_
          refine m_iconst (v := 2) C dX0_ringFrom_72 (by decide) ?_
          refine m_irem C dX0_ringFrom_73 (iv_nz kc_2 (by decide)) ?_
          refine m_topi (fun x37 ex37 => ?_)
          have b38 : IV x37 0 1 := by rw [ex37]; exact iv_rem b_a1 kc_2 (by decide)
          refine m_if_ne (tgt := 89) C dX0_ringFrom_74 (by decide) (fun c39 => ?_) (fun c39 => ?_)
          · have f40 : x37.toInt ≠ 0 := by
              have q : _ := c39
              simp only [ti_nle, ti_nlt, ti_le, ti_lt, ti_eq, ti_ne, Classical.not_not, kt_0] at q
              omega
            have b41 : IV x37 1 1 := ⟨by have q1 := b38; have q2 := kc_0; omega, by have q1 := b38; have q2 := kc_0; omega⟩
            refine m_iload_n C dX0_ringFrom_89 rfl rfl ?_
            refine m_aload_n C dX0_ringFrom_90 rfl rfl ?_
            refine g_16_0 C q1_149 dX0_ringFrom_91 ?_
            refine m_iload C dX0_ringFrom_94 rfl ?_
            refine al_17 C b22 (by decide) rfl dX0_ringFrom_96 ?_
            refine m_topi (fun x42 ex42 => ?_)
            refine m_isub C dX0_ringFrom_97 ?_
            refine m_topi (fun x43 ex43 => ?_)
            exact J98 τ34 x43 i35 f36 b_a1 b_a2 b_a3 b_a4 b22 (iv_any x43)
          · have f44 : x37.toInt = 0 := by
              have q : _ := c39
              simp only [ti_nle, ti_nlt, ti_le, ti_lt, ti_eq, ti_ne, Classical.not_not, kt_0] at q
              omega
            have b45 : IV x37 0 0 := ⟨by have q1 := b38; have q2 := kc_0; omega, by have q1 := b38; have q2 := kc_0; omega⟩
            refine m_iload_n C dX0_ringFrom_77 rfl rfl ?_
            refine m_aload_n C dX0_ringFrom_78 rfl rfl ?_
            refine g_16_0 C q1_149 dX0_ringFrom_79 ?_
            refine m_iload C dX0_ringFrom_82 rfl ?_
            refine al_17 C b22 (by decide) rfl dX0_ringFrom_84 ?_
            refine m_topi (fun x46 ex46 => ?_)
            refine m_iadd C dX0_ringFrom_85 ?_
            refine m_topi (fun x47 ex47 => ?_)
            refine m_goto (tgt := 98) C dX0_ringFrom_86 (by decide) ?_
            exact J98 τ34 x47 i35 f36 b_a1 b_a2 b_a3 b_a4 b22 (iv_any x47)
  refine m_iload C dX0_ringFrom_0 rfl ?_
  refine m_aload_n C dX0_ringFrom_2 rfl rfl ?_
  refine g_16_4 C q1_154 dX0_ringFrom_3 ?_
  refine m_topi (fun x48 ex48 => ?_)
  refine m_icmp_lt (tgt := 10) C dX0_ringFrom_6 (by decide) (fun c49 => ?_) (fun c49 => ?_)
  · have f50 : a4.toInt < x48.toInt := by
      have q : _ := c49
      simp only [ti_nle, ti_nlt, ti_le, ti_lt, ti_eq, ti_ne, Classical.not_not] at q
      omega
    have b51 : IV a4 (-2147483648) 2147483646 := ⟨by have q1 := (iv_any a4); have q2 := (iv_any x48); omega, by have q1 := (iv_any a4); have q2 := (iv_any x48); omega⟩
    have b52 : IV x48 (-2147483647) 2147483647 := ⟨by have q1 := (iv_any a4); have q2 := (iv_any x48); omega, by have q1 := (iv_any a4); have q2 := (iv_any x48); omega⟩
    refine m_iload_n C dX0_ringFrom_10 rfl rfl ?_
    refine m_aload_n C dX0_ringFrom_11 rfl rfl ?_
    refine g_16_2 C q1_151 dX0_ringFrom_12 ?_
    refine m_topi (fun x53 ex53 => ?_)
    have b54 : IV x53 0 5 := by rw [ex53]; exact hI.1 16 0 2
    refine m_icmp_lt (tgt := 42) C dX0_ringFrom_15 (by decide) (fun c55 => ?_) (fun c55 => ?_)
    · have f56 : a1.toInt < x53.toInt := by
        have q : _ := c55
        simp only [ti_nle, ti_nlt, ti_le, ti_lt, ti_eq, ti_ne, Classical.not_not] at q
        omega
      have b57 : IV x53 5 5 := ⟨by have q1 := ha1; have q2 := b54; omega, by have q1 := ha1; have q2 := b54; omega⟩
      refine m_iconst (v := 0) C dX0_ringFrom_42 (by decide) ?_
      refine m_istore (L1 := [some (.ref (G.1 16 0)), some (.int a1), some (.int a2), some (.int a3), some (.int a4), some (.int 0), none, none]) C dX0_ringFrom_43 (by decide) rfl rfl ?_
      exact J45 ((5 - (0 : Int32).toInt).toNat + 1) σ 0 hI Fr.rf ha1 (iv_any a2) (iv_any a3) b51 (iv_wk kc_0 (by decide)) (Nat.lt_succ_self _)
    · have f58 : x53.toInt ≤ a1.toInt := by
        have q : _ := c55
        simp only [ti_nle, ti_nlt, ti_le, ti_lt, ti_eq, ti_ne, Classical.not_not] at q
        omega
      have b59 : IV x53 0 4 := ⟨by have q1 := b54; have q2 := ha1; omega, by have q1 := b54; have q2 := ha1; omega⟩
      refine m_aload_n C dX0_ringFrom_18 rfl rfl ?_
      refine m_iload C dX0_ringFrom_19 rfl ?_
      refine p_16_4 C q1_154 dX0_ringFrom_21 ?_
      refine m_tops (fun τ60 eτ60 => ?_)
      have i61 : Inv τ60 := eτ60 ▸ Inv.putF hI (by decide) rfl
      have f62 : Fr MS_X0_ringFrom_1 AS_X0_ringFrom_1 σ τ60 := eτ60 ▸ Fr.put (Fr.rf) (Or.inl (by decide))
      refine m_aload_n C dX0_ringFrom_24 rfl rfl ?_
      refine g_16_1 C q1_150 dX0_ringFrom_25 ?_
      refine m_iconst (v := 0) C dX0_ringFrom_28 (by decide) ?_
      refine m_aload_n C dX0_ringFrom_29 rfl rfl ?_
      refine g_16_3 C q1_152 dX0_ringFrom_30 ?_
      refine m_iconst (v := 0) C dX0_ringFrom_33 (by decide) ?_
      refine m_aload_n C dX0_ringFrom_34 rfl rfl ?_
      refine g_16_2 C q1_151 dX0_ringFrom_35 ?_
      refine m_eqs (w := x53) (show gV τ60 16 0 2 = x53 from gV_put eτ60 ex53.symm) ?_
      have q63 := b59
      have q64 := kt_0
      refine m_copy (t0 := 18) (n0 := 5) (t1 := 19) (n1 := 5) (st := []) C (by decide) (by decide) rfl (by decide) (by decide) (fun _ => rfl) ⟨by omega, by omega, by omega, by omega, by omega⟩ q3_234 q2_30 q2_29 q1_8 ⟨by decide, by decide +kernel⟩ dX0_ringFrom_38 ?_
      refine m_tops (fun τ65 eτ65 => ?_)
      have i66 : Inv τ65 := eτ65 ▸ Inv.putRow i61 (by decide) (fun _ => rfl)
      have f67 : Fr MS_X0_ringFrom_1 AS_X0_ringFrom_1 σ τ65 := eτ65 ▸ Fr.putRow (f62) (by decide)
      exact m_vret C hr hlk (by decide) (by decide) dX0_ringFrom_41 ⟨rfl, i66, f67⟩
  · have f68 : x48.toInt ≤ a4.toInt := by
      have q : _ := c49
      simp only [ti_nle, ti_nlt, ti_le, ti_lt, ti_eq, ti_ne, Classical.not_not] at q
      omega
    exact m_vret C hr hlk (by decide) (by decide) dX0_ringFrom_9 ⟨rfl, hI, Fr.rf⟩

abbrev MS_X0_ringFrom_2 : List (Nat × Nat) := [(16, 4)]
abbrev AS_X0_ringFrom_2 : List Nat := [18, 19]
set_option maxHeartbeats 4000000 in
set_option maxRecDepth 100000 in
theorem c_X0_ringFrom_2 (l : Launch) (G : Gt) (σ : Sg) (a1 : Int32) (a2 : Int32) (a3 : Int32) (a4 : Int32) (hI : Inv σ) (ha1 : IV a1 3 3) : Mc l G yX0_ringFrom cX0_ringFrom 8 none 3 114 0 0 [.ref (G.1 16 0), .int a1, .int a2, .int a3, .int a4] σ (PV fun τ => Inv τ ∧ Fr MS_X0_ringFrom_2 AS_X0_ringFrom_2 σ τ) := by
  refine Mc.of (L0 := [some (.ref (G.1 16 0)), some (.int a1), some (.int a2), some (.int a3), some (.int a4), none, none, none]) (by decide) (Nat.le_of_ble_eq_true rfl) rfl ?_
  intro p e s m args below meth c C hr hlk
  have C : Cx p s m args c cX0_ringFrom 8 "LeanTower$Bells" := C
  have k0 : (0 : Int32).toInt = 0 := by decide
  have k1 : (1 : Int32).toInt = 1 := by decide
  have J45 : ∀ (n : Nat) (τ : Sg) (y5 : Int32), Inv τ → Fr MS_X0_ringFrom_2 AS_X0_ringFrom_2 σ τ → IV a1 3 3 → IV a2 (-2147483648) 2147483647 → IV a3 (-2147483648) 2147483647 → IV a4 (-2147483648) 2147483646 → IV y5 0 5 → (5 - y5.toInt).toNat < n → MW p l e { frames := 3, cells := 0, slots := 0, locals := 114 } s m args below meth c (MQ below (QP G (PV fun τ => Inv τ ∧ Fr MS_X0_ringFrom_2 AS_X0_ringFrom_2 σ τ)) args s 0 0 (aG G)) 8 G 0 0 45 [some (.ref (G.1 16 0)), some (.int a1), some (.int a2), some (.int a3), some (.int a4), some (.int y5), none, none] [] τ := by
    intro n
    induction n with
    | zero => intro τ y5 iτ fτ b_a1 b_a2 b_a3 b_a4 b_y5 hm; exact absurd hm (Nat.not_lt_zero _)
    | succ n ih45 =>
      intro τ y5 iτ fτ b_a1 b_a2 b_a3 b_a4 b_y5 hm45
      have J98 : ∀ (τ : Sg) (z0 : Int32), Inv τ → Fr MS_X0_ringFrom_2 AS_X0_ringFrom_2 σ τ → IV a1 3 3 → IV a2 (-2147483648) 2147483647 → IV a3 (-2147483648) 2147483647 → IV a4 (-2147483648) 2147483646 → IV y5 0 4 → IV z0 (-2147483648) 2147483647 → MW p l e { frames := 3, cells := 0, slots := 0, locals := 114 } s m args below meth c (MQ below (QP G (PV fun τ => Inv τ ∧ Fr MS_X0_ringFrom_2 AS_X0_ringFrom_2 σ τ)) args s 0 0 (aG G)) 8 G 0 0 98 [some (.ref (G.1 16 0)), some (.int a1), some (.int a2), some (.int a3), some (.int a4), some (.int y5), none, none] [.int z0] τ := by
        intro τ z0 iτ fτ b_a1 b_a2 b_a3 b_a4 b_y5 b_z0
        refine m_istore (L1 := [some (.ref (G.1 16 0)), some (.int a1), some (.int a2), some (.int a3), some (.int a4), some (.int y5), some (.int z0), none]) C dX0_ringFrom_98 (by decide) rfl rfl ?_
        refine m_iload C dX0_ringFrom_100 rfl ?_
        refine m_iload C dX0_ringFrom_102 rfl ?_
        refine m_abs (st := [.int a4]) C q3_235 q3_66 q1_19 q3_67 ⟨by decide, Nat.le_of_ble_eq_true rfl⟩ (by decide) dX0_ringFrom_104 (fun x1 ex1 => ?_)
        refine m_max (st := []) C q3_236 q3_92 q1_19 q3_93 ⟨by decide, Nat.le_of_ble_eq_true rfl⟩ (by decide) dX0_ringFrom_107 (fun x2 ex2 => ?_)
        have tx2 : x2.toInt = max (a4.toInt) (x1.toInt) := by rw [ti_max ex2]
        refine m_istore (L1 := [some (.ref (G.1 16 0)), some (.int a1), some (.int a2), some (.int a3), some (.int a4), some (.int y5), some (.int z0), some (.int x2)]) C dX0_ringFrom_110 (by decide) rfl rfl ?_
        refine m_aload_n C dX0_ringFrom_112 rfl rfl ?_
        refine m_iload_n C dX0_ringFrom_113 rfl rfl ?_
        refine m_iconst (v := 1) C dX0_ringFrom_114 (by decide) ?_
        refine m_iadd C dX0_ringFrom_115 ?_
        refine m_topi (fun x3 ex3 => ?_)
        have tx3 : x3.toInt = a1.toInt + 1 := by rw [ex3, ti_addv b_a1 kc_1 (by decide), kt_1]
        have b4 : IV x3 4 4 := by rw [ex3]; exact iv_add b_a1 kc_1 (by decide)
        refine m_iload_n C dX0_ringFrom_116 rfl rfl ?_
        refine m_iconst (v := 1) C dX0_ringFrom_117 (by decide) ?_
        refine m_iload C dX0_ringFrom_118 rfl ?_
        refine m_ishl C dX0_ringFrom_120 ?_
        refine m_topi (fun x5 ex5 => ?_)
        have b6 : IV x5 1 16 := by rw [ex5]; exact iv_shl1 b_y5 (by decide)
        refine m_ior C dX0_ringFrom_121 ?_
        refine m_topi (fun x7 ex7 => ?_)
        refine m_iload C dX0_ringFrom_122 rfl ?_
        refine m_iload C dX0_ringFrom_124 rfl ?_
        refine m_callV (n := 4) (ci := 0) (st := []) C (c_X0_ringFrom_1 l G τ (x3) (x7) (z0) (x2) iτ b4) (by decide) (by decide) rfl rfl rfl q3_233 q3_230 q3_232 q0_24 q1_5 (by decide +kernel) rfl (by decide) (by decide) rfl (Nat.le_of_ble_eq_true rfl) dX0_ringFrom_126 ?_
        rintro _ τ8 ⟨rfl, i9, f10⟩
        have g13 : Fr MS_X0_ringFrom_2 AS_X0_ringFrom_2 σ τ8 := Fr.call (fτ) f10 (by decide)
        show MW p l e _ s m args below meth c _ 8 G 0 0 129 [some (.ref (G.1 16 0)), some (.int a1), some (.int a2), some (.int a3), some (.int a4), some (.int y5), some (.int z0), some (.int x2)] [] τ8
        obtain ⟨x15, ex15⟩ : ∃ y : Int32, y = y5 + 1 := ⟨_, rfl⟩
        have tx15 : x15.toInt = y5.toInt + 1 := by rw [ex15, ti_addv b_y5 kc_1 (by decide), kt_1]
        have b16 : IV x15 1 5 := by rw [ex15]; exact iv_add b_y5 kc_1 (by decide)
        refine m_iinc (v := x15) (L1 := [some (.ref (G.1 16 0)), some (.int a1), some (.int a2), some (.int a3), some (.int a4), some (.int x15), some (.int z0), some (.int x2)]) C dX0_ringFrom_129 rfl (by rw [ex15]; rfl) (by decide) rfl rfl ?_
        refine m_goto (tgt := 45) C dX0_ringFrom_132 (by decide) ?_
        refine m_sub (L1 := [some (.ref (G.1 16 0)), some (.int a1), some (.int a2), some (.int a3), some (.int a4), some (.int x15), none, none]) ⟨rfl, ⟨rfl, ⟨rfl, ⟨rfl, ⟨rfl, ⟨rfl, trivial⟩⟩⟩⟩⟩⟩ ?_
        exact ih45 τ8 x15 i9 g13 b_a1 b_a2 b_a3 b_a4 (iv_wk b16 (by decide)) (by have q := hm45; omega)
      refine m_iload C dX0_ringFrom_45 rfl ?_
      refine m_aload_n C dX0_ringFrom_47 rfl rfl ?_
      refine g_16_2 C q1_151 dX0_ringFrom_48 ?_
      refine m_topi (fun x17 ex17 => ?_)
      have b18 : IV x17 0 5 := by rw [ex17]; exact iτ.1 16 0 2
      refine m_icmp_ge (tgt := 135) C dX0_ringFrom_51 (by decide) (fun c19 => ?_) (fun c19 => ?_)
      · have f20 : x17.toInt ≤ y5.toInt := by
          have q : _ := c19
          simp only [ti_nle, ti_nlt, ti_le, ti_lt, ti_eq, ti_ne, Classical.not_not] at q
          omega
        exact m_vret C hr hlk (by decide) (by decide) dX0_ringFrom_135 ⟨rfl, iτ, fτ⟩
      · have f21 : y5.toInt < x17.toInt := by
          have q : _ := c19
          simp only [ti_nle, ti_nlt, ti_le, ti_lt, ti_eq, ti_ne, Classical.not_not] at q
          omega
        have b22 : IV y5 0 4 := ⟨by have q1 := b_y5; have q2 := b18; omega, by have q1 := b_y5; have q2 := b18; omega⟩
        have b23 : IV x17 1 5 := ⟨by have q1 := b_y5; have q2 := b18; omega, by have q1 := b_y5; have q2 := b18; omega⟩
        refine m_iload_n C dX0_ringFrom_54 rfl rfl ?_
        refine m_iload C dX0_ringFrom_55 rfl ?_
        refine m_ishr C dX0_ringFrom_57 ?_
        refine m_topi (fun x24 ex24 => ?_)
        refine m_iconst (v := 1) C dX0_ringFrom_58 (by decide) ?_
        refine m_iand C dX0_ringFrom_59 ?_
        refine m_topi (fun x25 ex25 => ?_)
        have b26 : IV x25 0 1 := by rw [ex25]; exact iv_and_r kc_1 (by decide)
        refine m_if_ne (tgt := 129) C dX0_ringFrom_60 (by decide) (fun c27 => ?_) (fun c27 => ?_)
        · have f28 : x25.toInt ≠ 0 := by
            have q : _ := c27
            simp only [ti_nle, ti_nlt, ti_le, ti_lt, ti_eq, ti_ne, Classical.not_not, kt_0] at q
            omega
          have b29 : IV x25 1 1 := ⟨by have q1 := b26; have q2 := kc_0; omega, by have q1 := b26; have q2 := kc_0; omega⟩
          obtain ⟨x30, ex30⟩ : ∃ y : Int32, y = y5 + 1 := ⟨_, rfl⟩
          have tx30 : x30.toInt = y5.toInt + 1 := by rw [ex30, ti_addv b22 kc_1 (by decide), kt_1]
          have b31 : IV x30 1 5 := by rw [ex30]; exact iv_add b22 kc_1 (by decide)
          refine m_iinc (v := x30) (L1 := [some (.ref (G.1 16 0)), some (.int a1), some (.int a2), some (.int a3), some (.int a4), some (.int x30), none, none]) C dX0_ringFrom_129 rfl (by rw [ex30]; rfl) (by decide) rfl rfl ?_
          refine m_goto (tgt := 45) C dX0_ringFrom_132 (by decide) ?_
          exact ih45 τ x30 iτ fτ b_a1 b_a2 b_a3 b_a4 (iv_wk b31 (by decide)) (by have q := hm45; omega)
        · have f32 : x25.toInt = 0 := by
            have q : _ := c27
            simp only [ti_nle, ti_nlt, ti_le, ti_lt, ti_eq, ti_ne, Classical.not_not, kt_0] at q
            omega
          have b33 : IV x25 0 0 := ⟨by have q1 := b26; have q2 := kc_0; omega, by have q1 := b26; have q2 := kc_0; omega⟩
          refine m_aload_n C dX0_ringFrom_63 rfl rfl ?_
          refine g_16_1 C q1_150 dX0_ringFrom_64 ?_
          refine m_iload_n C dX0_ringFrom_67 rfl rfl ?_
          refine m_iload C dX0_ringFrom_68 rfl ?_
          refine as_18 C b_a1 (by decide) rfl dX0_ringFrom_70 ?_
          refine m_tops (fun τ34 eτ34 => ?_)
          have i35 : Inv τ34 := eτ34 ▸ Inv.putF iτ (by decide) rfl
          have f36 : Fr MS_X0_ringFrom_2 AS_X0_ringFrom_2 σ τ34 := eτ34 ▸ Fr.put (fτ) (Or.inr (by decide))
          refine m_iload_n C dX0_ringFrom_71 rfl rfl ?_
          refine m_iconst (v := 2) C dX0_ringFrom_72 (by decide) ?_
          refine m_irem C dX0_ringFrom_73 (iv_nz kc_2 (by decide)) ?_
          refine m_topi (fun x37 ex37 => ?_)
          have b38 : IV x37 0 1 := by rw [ex37]; exact iv_rem b_a1 kc_2 (by decide)
          refine m_if_ne (tgt := 89) C dX0_ringFrom_74 (by decide) (fun c39 => ?_) (fun c39 => ?_)
          · have f40 : x37.toInt ≠ 0 := by
              have q : _ := c39
              simp only [ti_nle, ti_nlt, ti_le, ti_lt, ti_eq, ti_ne, Classical.not_not, kt_0] at q
              omega
            have b41 : IV x37 1 1 := ⟨by have q1 := b38; have q2 := kc_0; omega, by have q1 := b38; have q2 := kc_0; omega⟩
            refine m_iload_n C dX0_ringFrom_89 rfl rfl ?_
            refine m_aload_n C dX0_ringFrom_90 rfl rfl ?_
            refine g_16_0 C q1_149 dX0_ringFrom_91 ?_
            refine m_iload C dX0_ringFrom_94 rfl ?_
            refine al_17 C b22 (by decide) rfl dX0_ringFrom_96 ?_
            refine m_topi (fun x42 ex42 => ?_)
            refine m_isub C dX0_ringFrom_97 ?_
            refine m_topi (fun x43 ex43 => ?_)
            exact J98 τ34 x43 i35 f36 b_a1 b_a2 b_a3 b_a4 b22 (iv_any x43)
          · have f44 : x37.toInt = 0 := by
              have q : _ := c39
              simp only [ti_nle, ti_nlt, ti_le, ti_lt, ti_eq, ti_ne, Classical.not_not, kt_0] at q
              omega
            have b45 : IV x37 0 0 := ⟨by have q1 := b38; have q2 := kc_0; omega, by have q1 := b38; have q2 := kc_0; omega⟩
            refine m_iload_n C dX0_ringFrom_77 rfl rfl ?_
            refine m_aload_n C dX0_ringFrom_78 rfl rfl ?_
            refine g_16_0 C q1_149 dX0_ringFrom_79 ?_
            refine m_iload C dX0_ringFrom_82 rfl ?_
            refine al_17 C b22 (by decide) rfl dX0_ringFrom_84 ?_
            refine m_topi (fun x46 ex46 => ?_)
            refine m_iadd C dX0_ringFrom_85 ?_
            refine m_topi (fun x47 ex47 => ?_)
            refine m_goto (tgt := 98) C dX0_ringFrom_86 (by decide) ?_
            exact J98 τ34 x47 i35 f36 b_a1 b_a2 b_a3 b_a4 b22 (iv_any x47)
  refine m_iload C dX0_ringFrom_0 rfl ?_
  refine m_aload_n C dX0_ringFrom_2 rfl rfl ?_
  refine g_16_4 C q1_154 dX0_ringFrom_3 ?_
  refine m_topi (fun x48 ex48 => ?_)
  refine m_icmp_lt (tgt := 10) C dX0_ringFrom_6 (by decide) (fun c49 => ?_) (fun c49 => ?_)
  · have f50 : a4.toInt < x48.toInt := by
      have q : _ := c49
      simp only [ti_nle, ti_nlt, ti_le, ti_lt, ti_eq, ti_ne, Classical.not_not] at q
      omega
    have b51 : IV a4 (-2147483648) 2147483646 := ⟨by have q1 := (iv_any a4); have q2 := (iv_any x48); omega, by have q1 := (iv_any a4); have q2 := (iv_any x48); omega⟩
    have b52 : IV x48 (-2147483647) 2147483647 := ⟨by have q1 := (iv_any a4); have q2 := (iv_any x48); omega, by have q1 := (iv_any a4); have q2 := (iv_any x48); omega⟩
    refine m_iload_n C dX0_ringFrom_10 rfl rfl ?_
    refine m_aload_n C dX0_ringFrom_11 rfl rfl ?_
    refine g_16_2 C q1_151 dX0_ringFrom_12 ?_
    refine m_topi (fun x53 ex53 => ?_)
    have b54 : IV x53 0 5 := by rw [ex53]; exact hI.1 16 0 2
    refine m_icmp_lt (tgt := 42) C dX0_ringFrom_15 (by decide) (fun c55 => ?_) (fun c55 => ?_)
    · have f56 : a1.toInt < x53.toInt := by
        have q : _ := c55
        simp only [ti_nle, ti_nlt, ti_le, ti_lt, ti_eq, ti_ne, Classical.not_not] at q
        omega
      have b57 : IV x53 4 5 := ⟨by have q1 := ha1; have q2 := b54; omega, by have q1 := ha1; have q2 := b54; omega⟩
      refine m_iconst (v := 0) C dX0_ringFrom_42 (by decide) ?_
      refine m_istore (L1 := [some (.ref (G.1 16 0)), some (.int a1), some (.int a2), some (.int a3), some (.int a4), some (.int 0), none, none]) C dX0_ringFrom_43 (by decide) rfl rfl ?_
      exact J45 ((5 - (0 : Int32).toInt).toNat + 1) σ 0 hI Fr.rf ha1 (iv_any a2) (iv_any a3) b51 (iv_wk kc_0 (by decide)) (Nat.lt_succ_self _)
    · have f58 : x53.toInt ≤ a1.toInt := by
        have q : _ := c55
        simp only [ti_nle, ti_nlt, ti_le, ti_lt, ti_eq, ti_ne, Classical.not_not] at q
        omega
      have b59 : IV x53 0 3 := ⟨by have q1 := b54; have q2 := ha1; omega, by have q1 := b54; have q2 := ha1; omega⟩
      refine m_aload_n C dX0_ringFrom_18 rfl rfl ?_
      refine m_iload C dX0_ringFrom_19 rfl ?_
      refine p_16_4 C q1_154 dX0_ringFrom_21 ?_
      refine m_tops (fun τ60 eτ60 => ?_)
      have i61 : Inv τ60 := eτ60 ▸ Inv.putF hI (by decide) rfl
      have f62 : Fr MS_X0_ringFrom_2 AS_X0_ringFrom_2 σ τ60 := eτ60 ▸ Fr.put (Fr.rf) (Or.inl (by decide))
      refine m_aload_n C dX0_ringFrom_24 rfl rfl ?_
      refine g_16_1 C q1_150 dX0_ringFrom_25 ?_
      refine m_iconst (v := 0) C dX0_ringFrom_28 (by decide) ?_
      refine m_aload_n C dX0_ringFrom_29 rfl rfl ?_
      refine g_16_3 C q1_152 dX0_ringFrom_30 ?_
      refine m_iconst (v := 0) C dX0_ringFrom_33 (by decide) ?_
      refine m_aload_n C dX0_ringFrom_34 rfl rfl ?_
      refine g_16_2 C q1_151 dX0_ringFrom_35 ?_
      refine m_eqs (w := x53) (show gV τ60 16 0 2 = x53 from gV_put eτ60 ex53.symm) ?_
      have q63 := b59
      have q64 := kt_0
      refine m_copy (t0 := 18) (n0 := 5) (t1 := 19) (n1 := 5) (st := []) C (by decide) (by decide) rfl (by decide) (by decide) (fun _ => rfl) ⟨by omega, by omega, by omega, by omega, by omega⟩ q3_234 q2_30 q2_29 q1_8 ⟨by decide, by decide +kernel⟩ dX0_ringFrom_38 ?_
      refine m_tops (fun τ65 eτ65 => ?_)
      have i66 : Inv τ65 := eτ65 ▸ Inv.putRow i61 (by decide) (fun _ => rfl)
      have f67 : Fr MS_X0_ringFrom_2 AS_X0_ringFrom_2 σ τ65 := eτ65 ▸ Fr.putRow (f62) (by decide)
      exact m_vret C hr hlk (by decide) (by decide) dX0_ringFrom_41 ⟨rfl, i66, f67⟩
  · have f68 : x48.toInt ≤ a4.toInt := by
      have q : _ := c49
      simp only [ti_nle, ti_nlt, ti_le, ti_lt, ti_eq, ti_ne, Classical.not_not] at q
      omega
    exact m_vret C hr hlk (by decide) (by decide) dX0_ringFrom_9 ⟨rfl, hI, Fr.rf⟩

abbrev MS_X0_ringFrom_3 : List (Nat × Nat) := [(16, 4)]
abbrev AS_X0_ringFrom_3 : List Nat := [18, 19]
set_option maxHeartbeats 4000000 in
set_option maxRecDepth 100000 in
theorem c_X0_ringFrom_3 (l : Launch) (G : Gt) (σ : Sg) (a1 : Int32) (a2 : Int32) (a3 : Int32) (a4 : Int32) (hI : Inv σ) (ha1 : IV a1 2 2) : Mc l G yX0_ringFrom cX0_ringFrom 8 none 4 141 0 0 [.ref (G.1 16 0), .int a1, .int a2, .int a3, .int a4] σ (PV fun τ => Inv τ ∧ Fr MS_X0_ringFrom_3 AS_X0_ringFrom_3 σ τ) := by
  refine Mc.of (L0 := [some (.ref (G.1 16 0)), some (.int a1), some (.int a2), some (.int a3), some (.int a4), none, none, none]) (by decide) (Nat.le_of_ble_eq_true rfl) rfl ?_
  intro p e s m args below meth c C hr hlk
  have C : Cx p s m args c cX0_ringFrom 8 "LeanTower$Bells" := C
  have k0 : (0 : Int32).toInt = 0 := by decide
  have k1 : (1 : Int32).toInt = 1 := by decide
  have J45 : ∀ (n : Nat) (τ : Sg) (y5 : Int32), Inv τ → Fr MS_X0_ringFrom_3 AS_X0_ringFrom_3 σ τ → IV a1 2 2 → IV a2 (-2147483648) 2147483647 → IV a3 (-2147483648) 2147483647 → IV a4 (-2147483648) 2147483646 → IV y5 0 5 → (5 - y5.toInt).toNat < n → MW p l e { frames := 4, cells := 0, slots := 0, locals := 141 } s m args below meth c (MQ below (QP G (PV fun τ => Inv τ ∧ Fr MS_X0_ringFrom_3 AS_X0_ringFrom_3 σ τ)) args s 0 0 (aG G)) 8 G 0 0 45 [some (.ref (G.1 16 0)), some (.int a1), some (.int a2), some (.int a3), some (.int a4), some (.int y5), none, none] [] τ := by
    intro n
    induction n with
    | zero => intro τ y5 iτ fτ b_a1 b_a2 b_a3 b_a4 b_y5 hm; exact absurd hm (Nat.not_lt_zero _)
    | succ n ih45 =>
      intro τ y5 iτ fτ b_a1 b_a2 b_a3 b_a4 b_y5 hm45
      have J98 : ∀ (τ : Sg) (z0 : Int32), Inv τ → Fr MS_X0_ringFrom_3 AS_X0_ringFrom_3 σ τ → IV a1 2 2 → IV a2 (-2147483648) 2147483647 → IV a3 (-2147483648) 2147483647 → IV a4 (-2147483648) 2147483646 → IV y5 0 4 → IV z0 (-2147483648) 2147483647 → MW p l e { frames := 4, cells := 0, slots := 0, locals := 141 } s m args below meth c (MQ below (QP G (PV fun τ => Inv τ ∧ Fr MS_X0_ringFrom_3 AS_X0_ringFrom_3 σ τ)) args s 0 0 (aG G)) 8 G 0 0 98 [some (.ref (G.1 16 0)), some (.int a1), some (.int a2), some (.int a3), some (.int a4), some (.int y5), none, none] [.int z0] τ := by
        intro τ z0 iτ fτ b_a1 b_a2 b_a3 b_a4 b_y5 b_z0
        refine m_istore (L1 := [some (.ref (G.1 16 0)), some (.int a1), some (.int a2), some (.int a3), some (.int a4), some (.int y5), some (.int z0), none]) C dX0_ringFrom_98 (by decide) rfl rfl ?_
        refine m_iload C dX0_ringFrom_100 rfl ?_
        refine m_iload C dX0_ringFrom_102 rfl ?_
        refine m_abs (st := [.int a4]) C q3_235 q3_66 q1_19 q3_67 ⟨by decide, Nat.le_of_ble_eq_true rfl⟩ (by decide) dX0_ringFrom_104 (fun x1 ex1 => ?_)
        refine m_max (st := []) C q3_236 q3_92 q1_19 q3_93 ⟨by decide, Nat.le_of_ble_eq_true rfl⟩ (by decide) dX0_ringFrom_107 (fun x2 ex2 => ?_)
        have tx2 : x2.toInt = max (a4.toInt) (x1.toInt) := by rw [ti_max ex2]
        refine m_istore (L1 := [some (.ref (G.1 16 0)), some (.int a1), some (.int a2), some (.int a3), some (.int a4), some (.int y5), some (.int z0), some (.int x2)]) C dX0_ringFrom_110 (by decide) rfl rfl ?_
        refine m_aload_n C dX0_ringFrom_112 rfl rfl ?_
        refine m_iload_n C dX0_ringFrom_113 rfl rfl ?_
        refine m_iconst (v := 1) C dX0_ringFrom_114 (by decide) ?_
        refine m_iadd C dX0_ringFrom_115 ?_
        refine m_topi (fun x3 ex3 => ?_)
        have tx3 : x3.toInt = a1.toInt + 1 := by rw [ex3, ti_addv b_a1 kc_1 (by decide), kt_1]
        have b4 : IV x3 3 3 := by rw [ex3]; exact iv_add b_a1 kc_1 (by decide)
        refine m_iload_n C dX0_ringFrom_116 rfl rfl ?_
        refine m_iconst (v := 1) C dX0_ringFrom_117 (by decide) ?_
        refine m_iload C dX0_ringFrom_118 rfl ?_
        refine m_ishl C dX0_ringFrom_120 ?_
        refine m_topi (fun x5 ex5 => ?_)
        have b6 : IV x5 1 16 := by rw [ex5]; exact iv_shl1 b_y5 (by decide)
        refine m_ior C dX0_ringFrom_121 ?_
        refine m_topi (fun x7 ex7 => ?_)
        refine m_iload C dX0_ringFrom_122 rfl ?_
        refine m_iload C dX0_ringFrom_124 rfl ?_
        refine m_callV (n := 4) (ci := 0) (st := []) C (c_X0_ringFrom_2 l G τ (x3) (x7) (z0) (x2) iτ b4) (by decide) (by decide) rfl rfl rfl q3_233 q3_230 q3_232 q0_24 q1_5 (by decide +kernel) rfl (by decide) (by decide) rfl (Nat.le_of_ble_eq_true rfl) dX0_ringFrom_126 ?_
        rintro _ τ8 ⟨rfl, i9, f10⟩
        have g13 : Fr MS_X0_ringFrom_3 AS_X0_ringFrom_3 σ τ8 := Fr.call (fτ) f10 (by decide)
        show MW p l e _ s m args below meth c _ 8 G 0 0 129 [some (.ref (G.1 16 0)), some (.int a1), some (.int a2), some (.int a3), some (.int a4), some (.int y5), some (.int z0), some (.int x2)] [] τ8
        obtain ⟨x15, ex15⟩ : ∃ y : Int32, y = y5 + 1 := ⟨_, rfl⟩
        have tx15 : x15.toInt = y5.toInt + 1 := by rw [ex15, ti_addv b_y5 kc_1 (by decide), kt_1]
        have b16 : IV x15 1 5 := by rw [ex15]; exact iv_add b_y5 kc_1 (by decide)
        refine m_iinc (v := x15) (L1 := [some (.ref (G.1 16 0)), some (.int a1), some (.int a2), some (.int a3), some (.int a4), some (.int x15), some (.int z0), some (.int x2)]) C dX0_ringFrom_129 rfl (by rw [ex15]; rfl) (by decide) rfl rfl ?_
        refine m_goto (tgt := 45) C dX0_ringFrom_132 (by decide) ?_
        refine m_sub (L1 := [some (.ref (G.1 16 0)), some (.int a1), some (.int a2), some (.int a3), some (.int a4), some (.int x15), none, none]) ⟨rfl, ⟨rfl, ⟨rfl, ⟨rfl, ⟨rfl, ⟨rfl, trivial⟩⟩⟩⟩⟩⟩ ?_
        exact ih45 τ8 x15 i9 g13 b_a1 b_a2 b_a3 b_a4 (iv_wk b16 (by decide)) (by have q := hm45; omega)
      refine m_iload C dX0_ringFrom_45 rfl ?_
      refine m_aload_n C dX0_ringFrom_47 rfl rfl ?_
      refine g_16_2 C q1_151 dX0_ringFrom_48 ?_
      refine m_topi (fun x17 ex17 => ?_)
      have b18 : IV x17 0 5 := by rw [ex17]; exact iτ.1 16 0 2
      refine m_icmp_ge (tgt := 135) C dX0_ringFrom_51 (by decide) (fun c19 => ?_) (fun c19 => ?_)
      · have f20 : x17.toInt ≤ y5.toInt := by
          have q : _ := c19
          simp only [ti_nle, ti_nlt, ti_le, ti_lt, ti_eq, ti_ne, Classical.not_not] at q
          omega
        exact m_vret C hr hlk (by decide) (by decide) dX0_ringFrom_135 ⟨rfl, iτ, fτ⟩
      · have f21 : y5.toInt < x17.toInt := by
          have q : _ := c19
          simp only [ti_nle, ti_nlt, ti_le, ti_lt, ti_eq, ti_ne, Classical.not_not] at q
          omega
        have b22 : IV y5 0 4 := ⟨by have q1 := b_y5; have q2 := b18; omega, by have q1 := b_y5; have q2 := b18; omega⟩
        have b23 : IV x17 1 5 := ⟨by have q1 := b_y5; have q2 := b18; omega, by have q1 := b_y5; have q2 := b18; omega⟩
        refine m_iload_n C dX0_ringFrom_54 rfl rfl ?_
        refine m_iload C dX0_ringFrom_55 rfl ?_
        refine m_ishr C dX0_ringFrom_57 ?_
        refine m_topi (fun x24 ex24 => ?_)
        refine m_iconst (v := 1) C dX0_ringFrom_58 (by decide) ?_
        refine m_iand C dX0_ringFrom_59 ?_
        refine m_topi (fun x25 ex25 => ?_)
        have b26 : IV x25 0 1 := by rw [ex25]; exact iv_and_r kc_1 (by decide)
        refine m_if_ne (tgt := 129) C dX0_ringFrom_60 (by decide) (fun c27 => ?_) (fun c27 => ?_)
        · have f28 : x25.toInt ≠ 0 := by
            have q : _ := c27
            simp only [ti_nle, ti_nlt, ti_le, ti_lt, ti_eq, ti_ne, Classical.not_not, kt_0] at q
            omega
          have b29 : IV x25 1 1 := ⟨by have q1 := b26; have q2 := kc_0; omega, by have q1 := b26; have q2 := kc_0; omega⟩
          obtain ⟨x30, ex30⟩ : ∃ y : Int32, y = y5 + 1 := ⟨_, rfl⟩
          have tx30 : x30.toInt = y5.toInt + 1 := by rw [ex30, ti_addv b22 kc_1 (by decide), kt_1]
          have b31 : IV x30 1 5 := by rw [ex30]; exact iv_add b22 kc_1 (by decide)
          refine m_iinc (v := x30) (L1 := [some (.ref (G.1 16 0)), some (.int a1), some (.int a2), some (.int a3), some (.int a4), some (.int x30), none, none]) C dX0_ringFrom_129 rfl (by rw [ex30]; rfl) (by decide) rfl rfl ?_
          refine m_goto (tgt := 45) C dX0_ringFrom_132 (by decide) ?_
          exact ih45 τ x30 iτ fτ b_a1 b_a2 b_a3 b_a4 (iv_wk b31 (by decide)) (by have q := hm45; omega)
        · have f32 : x25.toInt = 0 := by
            have q : _ := c27
            simp only [ti_nle, ti_nlt, ti_le, ti_lt, ti_eq, ti_ne, Classical.not_not, kt_0] at q
            omega
          have b33 : IV x25 0 0 := ⟨by have q1 := b26; have q2 := kc_0; omega, by have q1 := b26; have q2 := kc_0; omega⟩
          refine m_aload_n C dX0_ringFrom_63 rfl rfl ?_
          refine g_16_1 C q1_150 dX0_ringFrom_64 ?_
          refine m_iload_n C dX0_ringFrom_67 rfl rfl ?_
          refine m_iload C dX0_ringFrom_68 rfl ?_
          refine as_18 C b_a1 (by decide) rfl dX0_ringFrom_70 ?_
          refine m_tops (fun τ34 eτ34 => ?_)
          have i35 : Inv τ34 := eτ34 ▸ Inv.putF iτ (by decide) rfl
          have f36 : Fr MS_X0_ringFrom_3 AS_X0_ringFrom_3 σ τ34 := eτ34 ▸ Fr.put (fτ) (Or.inr (by decide))
          refine m_iload_n C dX0_ringFrom_71 rfl rfl ?_
          refine m_iconst (v := 2) C dX0_ringFrom_72 (by decide) ?_
          refine m_irem C dX0_ringFrom_73 (iv_nz kc_2 (by decide)) ?_
          refine m_topi (fun x37 ex37 => ?_)
          have b38 : IV x37 0 1 := by rw [ex37]; exact iv_rem b_a1 kc_2 (by decide)
          refine m_if_ne (tgt := 89) C dX0_ringFrom_74 (by decide) (fun c39 => ?_) (fun c39 => ?_)
          · have f40 : x37.toInt ≠ 0 := by
              have q : _ := c39
              simp only [ti_nle, ti_nlt, ti_le, ti_lt, ti_eq, ti_ne, Classical.not_not, kt_0] at q
              omega
            have b41 : IV x37 1 1 := ⟨by have q1 := b38; have q2 := kc_0; omega, by have q1 := b38; have q2 := kc_0; omega⟩
            refine m_iload_n C dX0_ringFrom_89 rfl rfl ?_
            refine m_aload_n C dX0_ringFrom_90 rfl rfl ?_
            refine g_16_0 C q1_149 dX0_ringFrom_91 ?_
            refine m_iload C dX0_ringFrom_94 rfl ?_
            refine al_17 C b22 (by decide) rfl dX0_ringFrom_96 ?_
            refine m_topi (fun x42 ex42 => ?_)
            refine m_isub C dX0_ringFrom_97 ?_
            refine m_topi (fun x43 ex43 => ?_)
            exact J98 τ34 x43 i35 f36 b_a1 b_a2 b_a3 b_a4 b22 (iv_any x43)
          · have f44 : x37.toInt = 0 := by
              have q : _ := c39
              simp only [ti_nle, ti_nlt, ti_le, ti_lt, ti_eq, ti_ne, Classical.not_not, kt_0] at q
              omega
            have b45 : IV x37 0 0 := ⟨by have q1 := b38; have q2 := kc_0; omega, by have q1 := b38; have q2 := kc_0; omega⟩
            refine m_iload_n C dX0_ringFrom_77 rfl rfl ?_
            refine m_aload_n C dX0_ringFrom_78 rfl rfl ?_
            refine g_16_0 C q1_149 dX0_ringFrom_79 ?_
            refine m_iload C dX0_ringFrom_82 rfl ?_
            refine al_17 C b22 (by decide) rfl dX0_ringFrom_84 ?_
            refine m_topi (fun x46 ex46 => ?_)
            refine m_iadd C dX0_ringFrom_85 ?_
            refine m_topi (fun x47 ex47 => ?_)
            refine m_goto (tgt := 98) C dX0_ringFrom_86 (by decide) ?_
            exact J98 τ34 x47 i35 f36 b_a1 b_a2 b_a3 b_a4 b22 (iv_any x47)
  refine m_iload C dX0_ringFrom_0 rfl ?_
  refine m_aload_n C dX0_ringFrom_2 rfl rfl ?_
  refine g_16_4 C q1_154 dX0_ringFrom_3 ?_
  refine m_topi (fun x48 ex48 => ?_)
  refine m_icmp_lt (tgt := 10) C dX0_ringFrom_6 (by decide) (fun c49 => ?_) (fun c49 => ?_)
  · have f50 : a4.toInt < x48.toInt := by
      have q : _ := c49
      simp only [ti_nle, ti_nlt, ti_le, ti_lt, ti_eq, ti_ne, Classical.not_not] at q
      omega
    have b51 : IV a4 (-2147483648) 2147483646 := ⟨by have q1 := (iv_any a4); have q2 := (iv_any x48); omega, by have q1 := (iv_any a4); have q2 := (iv_any x48); omega⟩
    have b52 : IV x48 (-2147483647) 2147483647 := ⟨by have q1 := (iv_any a4); have q2 := (iv_any x48); omega, by have q1 := (iv_any a4); have q2 := (iv_any x48); omega⟩
    refine m_iload_n C dX0_ringFrom_10 rfl rfl ?_
    refine m_aload_n C dX0_ringFrom_11 rfl rfl ?_
    refine g_16_2 C q1_151 dX0_ringFrom_12 ?_
    refine m_topi (fun x53 ex53 => ?_)
    have b54 : IV x53 0 5 := by rw [ex53]; exact hI.1 16 0 2
    refine m_icmp_lt (tgt := 42) C dX0_ringFrom_15 (by decide) (fun c55 => ?_) (fun c55 => ?_)
    · have f56 : a1.toInt < x53.toInt := by
        have q : _ := c55
        simp only [ti_nle, ti_nlt, ti_le, ti_lt, ti_eq, ti_ne, Classical.not_not] at q
        omega
      have b57 : IV x53 3 5 := ⟨by have q1 := ha1; have q2 := b54; omega, by have q1 := ha1; have q2 := b54; omega⟩
      refine m_iconst (v := 0) C dX0_ringFrom_42 (by decide) ?_
      refine m_istore (L1 := [some (.ref (G.1 16 0)), some (.int a1), some (.int a2), some (.int a3), some (.int a4), some (.int 0), none, none]) C dX0_ringFrom_43 (by decide) rfl rfl ?_
      exact J45 ((5 - (0 : Int32).toInt).toNat + 1) σ 0 hI Fr.rf ha1 (iv_any a2) (iv_any a3) b51 (iv_wk kc_0 (by decide)) (Nat.lt_succ_self _)
    · have f58 : x53.toInt ≤ a1.toInt := by
        have q : _ := c55
        simp only [ti_nle, ti_nlt, ti_le, ti_lt, ti_eq, ti_ne, Classical.not_not] at q
        omega
      have b59 : IV x53 0 2 := ⟨by have q1 := b54; have q2 := ha1; omega, by have q1 := b54; have q2 := ha1; omega⟩
      refine m_aload_n C dX0_ringFrom_18 rfl rfl ?_
      refine m_iload C dX0_ringFrom_19 rfl ?_
      refine p_16_4 C q1_154 dX0_ringFrom_21 ?_
      refine m_tops (fun τ60 eτ60 => ?_)
      have i61 : Inv τ60 := eτ60 ▸ Inv.putF hI (by decide) rfl
      have f62 : Fr MS_X0_ringFrom_3 AS_X0_ringFrom_3 σ τ60 := eτ60 ▸ Fr.put (Fr.rf) (Or.inl (by decide))
      refine m_aload_n C dX0_ringFrom_24 rfl rfl ?_
      refine g_16_1 C q1_150 dX0_ringFrom_25 ?_
      refine m_iconst (v := 0) C dX0_ringFrom_28 (by decide) ?_
      refine m_aload_n C dX0_ringFrom_29 rfl rfl ?_
      refine g_16_3 C q1_152 dX0_ringFrom_30 ?_
      refine m_iconst (v := 0) C dX0_ringFrom_33 (by decide) ?_
      refine m_aload_n C dX0_ringFrom_34 rfl rfl ?_
      refine g_16_2 C q1_151 dX0_ringFrom_35 ?_
      refine m_eqs (w := x53) (show gV τ60 16 0 2 = x53 from gV_put eτ60 ex53.symm) ?_
      have q63 := b59
      have q64 := kt_0
      refine m_copy (t0 := 18) (n0 := 5) (t1 := 19) (n1 := 5) (st := []) C (by decide) (by decide) rfl (by decide) (by decide) (fun _ => rfl) ⟨by omega, by omega, by omega, by omega, by omega⟩ q3_234 q2_30 q2_29 q1_8 ⟨by decide, by decide +kernel⟩ dX0_ringFrom_38 ?_
      refine m_tops (fun τ65 eτ65 => ?_)
      have i66 : Inv τ65 := eτ65 ▸ Inv.putRow i61 (by decide) (fun _ => rfl)
      have f67 : Fr MS_X0_ringFrom_3 AS_X0_ringFrom_3 σ τ65 := eτ65 ▸ Fr.putRow (f62) (by decide)
      exact m_vret C hr hlk (by decide) (by decide) dX0_ringFrom_41 ⟨rfl, i66, f67⟩
  · have f68 : x48.toInt ≤ a4.toInt := by
      have q : _ := c49
      simp only [ti_nle, ti_nlt, ti_le, ti_lt, ti_eq, ti_ne, Classical.not_not] at q
      omega
    exact m_vret C hr hlk (by decide) (by decide) dX0_ringFrom_9 ⟨rfl, hI, Fr.rf⟩

abbrev MS_X0_ringFrom_4 : List (Nat × Nat) := [(16, 4)]
abbrev AS_X0_ringFrom_4 : List Nat := [18, 19]
set_option maxHeartbeats 4000000 in
set_option maxRecDepth 100000 in
theorem c_X0_ringFrom_4 (l : Launch) (G : Gt) (σ : Sg) (a1 : Int32) (a2 : Int32) (a3 : Int32) (a4 : Int32) (hI : Inv σ) (ha1 : IV a1 1 1) : Mc l G yX0_ringFrom cX0_ringFrom 8 none 5 168 0 0 [.ref (G.1 16 0), .int a1, .int a2, .int a3, .int a4] σ (PV fun τ => Inv τ ∧ Fr MS_X0_ringFrom_4 AS_X0_ringFrom_4 σ τ) := by
  refine Mc.of (L0 := [some (.ref (G.1 16 0)), some (.int a1), some (.int a2), some (.int a3), some (.int a4), none, none, none]) (by decide) (Nat.le_of_ble_eq_true rfl) rfl ?_
  intro p e s m args below meth c C hr hlk
  have C : Cx p s m args c cX0_ringFrom 8 "LeanTower$Bells" := C
  have k0 : (0 : Int32).toInt = 0 := by decide
  have k1 : (1 : Int32).toInt = 1 := by decide
  have J45 : ∀ (n : Nat) (τ : Sg) (y5 : Int32), Inv τ → Fr MS_X0_ringFrom_4 AS_X0_ringFrom_4 σ τ → IV a1 1 1 → IV a2 (-2147483648) 2147483647 → IV a3 (-2147483648) 2147483647 → IV a4 (-2147483648) 2147483646 → IV y5 0 5 → (5 - y5.toInt).toNat < n → MW p l e { frames := 5, cells := 0, slots := 0, locals := 168 } s m args below meth c (MQ below (QP G (PV fun τ => Inv τ ∧ Fr MS_X0_ringFrom_4 AS_X0_ringFrom_4 σ τ)) args s 0 0 (aG G)) 8 G 0 0 45 [some (.ref (G.1 16 0)), some (.int a1), some (.int a2), some (.int a3), some (.int a4), some (.int y5), none, none] [] τ := by
    intro n
    induction n with
    | zero => intro τ y5 iτ fτ b_a1 b_a2 b_a3 b_a4 b_y5 hm; exact absurd hm (Nat.not_lt_zero _)
    | succ n ih45 =>
      intro τ y5 iτ fτ b_a1 b_a2 b_a3 b_a4 b_y5 hm45
      have J98 : ∀ (τ : Sg) (z0 : Int32), Inv τ → Fr MS_X0_ringFrom_4 AS_X0_ringFrom_4 σ τ → IV a1 1 1 → IV a2 (-2147483648) 2147483647 → IV a3 (-2147483648) 2147483647 → IV a4 (-2147483648) 2147483646 → IV y5 0 4 → IV z0 (-2147483648) 2147483647 → MW p l e { frames := 5, cells := 0, slots := 0, locals := 168 } s m args below meth c (MQ below (QP G (PV fun τ => Inv τ ∧ Fr MS_X0_ringFrom_4 AS_X0_ringFrom_4 σ τ)) args s 0 0 (aG G)) 8 G 0 0 98 [some (.ref (G.1 16 0)), some (.int a1), some (.int a2), some (.int a3), some (.int a4), some (.int y5), none, none] [.int z0] τ := by
        intro τ z0 iτ fτ b_a1 b_a2 b_a3 b_a4 b_y5 b_z0
        refine m_istore (L1 := [some (.ref (G.1 16 0)), some (.int a1), some (.int a2), some (.int a3), some (.int a4), some (.int y5), some (.int z0), none]) C dX0_ringFrom_98 (by decide) rfl rfl ?_
        refine m_iload C dX0_ringFrom_100 rfl ?_
        refine m_iload C dX0_ringFrom_102 rfl ?_
        refine m_abs (st := [.int a4]) C q3_235 q3_66 q1_19 q3_67 ⟨by decide, Nat.le_of_ble_eq_true rfl⟩ (by decide) dX0_ringFrom_104 (fun x1 ex1 => ?_)
        refine m_max (st := []) C q3_236 q3_92 q1_19 q3_93 ⟨by decide, Nat.le_of_ble_eq_true rfl⟩ (by decide) dX0_ringFrom_107 (fun x2 ex2 => ?_)
        have tx2 : x2.toInt = max (a4.toInt) (x1.toInt) := by rw [ti_max ex2]
        refine m_istore (L1 := [some (.ref (G.1 16 0)), some (.int a1), some (.int a2), some (.int a3), some (.int a4), some (.int y5), some (.int z0), some (.int x2)]) C dX0_ringFrom_110 (by decide) rfl rfl ?_
        refine m_aload_n C dX0_ringFrom_112 rfl rfl ?_
        refine m_iload_n C dX0_ringFrom_113 rfl rfl ?_
        refine m_iconst (v := 1) C dX0_ringFrom_114 (by decide) ?_
        refine m_iadd C dX0_ringFrom_115 ?_
        refine m_topi (fun x3 ex3 => ?_)
        have tx3 : x3.toInt = a1.toInt + 1 := by rw [ex3, ti_addv b_a1 kc_1 (by decide), kt_1]
        have b4 : IV x3 2 2 := by rw [ex3]; exact iv_add b_a1 kc_1 (by decide)
        refine m_iload_n C dX0_ringFrom_116 rfl rfl ?_
        refine m_iconst (v := 1) C dX0_ringFrom_117 (by decide) ?_
        refine m_iload C dX0_ringFrom_118 rfl ?_
        refine m_ishl C dX0_ringFrom_120 ?_
        refine m_topi (fun x5 ex5 => ?_)
        have b6 : IV x5 1 16 := by rw [ex5]; exact iv_shl1 b_y5 (by decide)
        refine m_ior C dX0_ringFrom_121 ?_
        refine m_topi (fun x7 ex7 => ?_)
        refine m_iload C dX0_ringFrom_122 rfl ?_
        refine m_iload C dX0_ringFrom_124 rfl ?_
        refine m_callV (n := 4) (ci := 0) (st := []) C (c_X0_ringFrom_3 l G τ (x3) (x7) (z0) (x2) iτ b4) (by decide) (by decide) rfl rfl rfl q3_233 q3_230 q3_232 q0_24 q1_5 (by decide +kernel) rfl (by decide) (by decide) rfl (Nat.le_of_ble_eq_true rfl) dX0_ringFrom_126 ?_
        rintro _ τ8 ⟨rfl, i9, f10⟩
        have g13 : Fr MS_X0_ringFrom_4 AS_X0_ringFrom_4 σ τ8 := Fr.call (fτ) f10 (by decide)
        show MW p l e _ s m args below meth c _ 8 G 0 0 129 [some (.ref (G.1 16 0)), some (.int a1), some (.int a2), some (.int a3), some (.int a4), some (.int y5), some (.int z0), some (.int x2)] [] τ8
        obtain ⟨x15, ex15⟩ : ∃ y : Int32, y = y5 + 1 := ⟨_, rfl⟩
        have tx15 : x15.toInt = y5.toInt + 1 := by rw [ex15, ti_addv b_y5 kc_1 (by decide), kt_1]
        have b16 : IV x15 1 5 := by rw [ex15]; exact iv_add b_y5 kc_1 (by decide)
        refine m_iinc (v := x15) (L1 := [some (.ref (G.1 16 0)), some (.int a1), some (.int a2), some (.int a3), some (.int a4), some (.int x15), some (.int z0), some (.int x2)]) C dX0_ringFrom_129 rfl (by rw [ex15]; rfl) (by decide) rfl rfl ?_
        refine m_goto (tgt := 45) C dX0_ringFrom_132 (by decide) ?_
        refine m_sub (L1 := [some (.ref (G.1 16 0)), some (.int a1), some (.int a2), some (.int a3), some (.int a4), some (.int x15), none, none]) ⟨rfl, ⟨rfl, ⟨rfl, ⟨rfl, ⟨rfl, ⟨rfl, trivial⟩⟩⟩⟩⟩⟩ ?_
        exact ih45 τ8 x15 i9 g13 b_a1 b_a2 b_a3 b_a4 (iv_wk b16 (by decide)) (by have q := hm45; omega)
      refine m_iload C dX0_ringFrom_45 rfl ?_
      refine m_aload_n C dX0_ringFrom_47 rfl rfl ?_
      refine g_16_2 C q1_151 dX0_ringFrom_48 ?_
      refine m_topi (fun x17 ex17 => ?_)
      have b18 : IV x17 0 5 := by rw [ex17]; exact iτ.1 16 0 2
      refine m_icmp_ge (tgt := 135) C dX0_ringFrom_51 (by decide) (fun c19 => ?_) (fun c19 => ?_)
      · have f20 : x17.toInt ≤ y5.toInt := by
          have q : _ := c19
          simp only [ti_nle, ti_nlt, ti_le, ti_lt, ti_eq, ti_ne, Classical.not_not] at q
          omega
        exact m_vret C hr hlk (by decide) (by decide) dX0_ringFrom_135 ⟨rfl, iτ, fτ⟩
      · have f21 : y5.toInt < x17.toInt := by
          have q : _ := c19
          simp only [ti_nle, ti_nlt, ti_le, ti_lt, ti_eq, ti_ne, Classical.not_not] at q
          omega
        have b22 : IV y5 0 4 := ⟨by have q1 := b_y5; have q2 := b18; omega, by have q1 := b_y5; have q2 := b18; omega⟩
        have b23 : IV x17 1 5 := ⟨by have q1 := b_y5; have q2 := b18; omega, by have q1 := b_y5; have q2 := b18; omega⟩
        refine m_iload_n C dX0_ringFrom_54 rfl rfl ?_
        refine m_iload C dX0_ringFrom_55 rfl ?_
        refine m_ishr C dX0_ringFrom_57 ?_
        refine m_topi (fun x24 ex24 => ?_)
        refine m_iconst (v := 1) C dX0_ringFrom_58 (by decide) ?_
        refine m_iand C dX0_ringFrom_59 ?_
        refine m_topi (fun x25 ex25 => ?_)
        have b26 : IV x25 0 1 := by rw [ex25]; exact iv_and_r kc_1 (by decide)
        refine m_if_ne (tgt := 129) C dX0_ringFrom_60 (by decide) (fun c27 => ?_) (fun c27 => ?_)
        · have f28 : x25.toInt ≠ 0 := by
            have q : _ := c27
            simp only [ti_nle, ti_nlt, ti_le, ti_lt, ti_eq, ti_ne, Classical.not_not, kt_0] at q
            omega
          have b29 : IV x25 1 1 := ⟨by have q1 := b26; have q2 := kc_0; omega, by have q1 := b26; have q2 := kc_0; omega⟩
          obtain ⟨x30, ex30⟩ : ∃ y : Int32, y = y5 + 1 := ⟨_, rfl⟩
          have tx30 : x30.toInt = y5.toInt + 1 := by rw [ex30, ti_addv b22 kc_1 (by decide), kt_1]
          have b31 : IV x30 1 5 := by rw [ex30]; exact iv_add b22 kc_1 (by decide)
          refine m_iinc (v := x30) (L1 := [some (.ref (G.1 16 0)), some (.int a1), some (.int a2), some (.int a3), some (.int a4), some (.int x30), none, none]) C dX0_ringFrom_129 rfl (by rw [ex30]; rfl) (by decide) rfl rfl ?_
          refine m_goto (tgt := 45) C dX0_ringFrom_132 (by decide) ?_
          exact ih45 τ x30 iτ fτ b_a1 b_a2 b_a3 b_a4 (iv_wk b31 (by decide)) (by have q := hm45; omega)
        · have f32 : x25.toInt = 0 := by
            have q : _ := c27
            simp only [ti_nle, ti_nlt, ti_le, ti_lt, ti_eq, ti_ne, Classical.not_not, kt_0] at q
            omega
          have b33 : IV x25 0 0 := ⟨by have q1 := b26; have q2 := kc_0; omega, by have q1 := b26; have q2 := kc_0; omega⟩
          refine m_aload_n C dX0_ringFrom_63 rfl rfl ?_
          refine g_16_1 C q1_150 dX0_ringFrom_64 ?_
          refine m_iload_n C dX0_ringFrom_67 rfl rfl ?_
          refine m_iload C dX0_ringFrom_68 rfl ?_
          refine as_18 C b_a1 (by decide) rfl dX0_ringFrom_70 ?_
          refine m_tops (fun τ34 eτ34 => ?_)
          have i35 : Inv τ34 := eτ34 ▸ Inv.putF iτ (by decide) rfl
          have f36 : Fr MS_X0_ringFrom_4 AS_X0_ringFrom_4 σ τ34 := eτ34 ▸ Fr.put (fτ) (Or.inr (by decide))
          refine m_iload_n C dX0_ringFrom_71 rfl rfl ?_
          refine m_iconst (v := 2) C dX0_ringFrom_72 (by decide) ?_
          refine m_irem C dX0_ringFrom_73 (iv_nz kc_2 (by decide)) ?_
          refine m_topi (fun x37 ex37 => ?_)
          have b38 : IV x37 0 1 := by rw [ex37]; exact iv_rem b_a1 kc_2 (by decide)
          refine m_if_ne (tgt := 89) C dX0_ringFrom_74 (by decide) (fun c39 => ?_) (fun c39 => ?_)
          · have f40 : x37.toInt ≠ 0 := by
              have q : _ := c39
              simp only [ti_nle, ti_nlt, ti_le, ti_lt, ti_eq, ti_ne, Classical.not_not, kt_0] at q
              omega
            have b41 : IV x37 1 1 := ⟨by have q1 := b38; have q2 := kc_0; omega, by have q1 := b38; have q2 := kc_0; omega⟩
            refine m_iload_n C dX0_ringFrom_89 rfl rfl ?_
            refine m_aload_n C dX0_ringFrom_90 rfl rfl ?_
            refine g_16_0 C q1_149 dX0_ringFrom_91 ?_
            refine m_iload C dX0_ringFrom_94 rfl ?_
            refine al_17 C b22 (by decide) rfl dX0_ringFrom_96 ?_
            refine m_topi (fun x42 ex42 => ?_)
            refine m_isub C dX0_ringFrom_97 ?_
            refine m_topi (fun x43 ex43 => ?_)
            exact J98 τ34 x43 i35 f36 b_a1 b_a2 b_a3 b_a4 b22 (iv_any x43)
          · have f44 : x37.toInt = 0 := by
              have q : _ := c39
              simp only [ti_nle, ti_nlt, ti_le, ti_lt, ti_eq, ti_ne, Classical.not_not, kt_0] at q
              omega
            have b45 : IV x37 0 0 := ⟨by have q1 := b38; have q2 := kc_0; omega, by have q1 := b38; have q2 := kc_0; omega⟩
            refine m_iload_n C dX0_ringFrom_77 rfl rfl ?_
            refine m_aload_n C dX0_ringFrom_78 rfl rfl ?_
            refine g_16_0 C q1_149 dX0_ringFrom_79 ?_
            refine m_iload C dX0_ringFrom_82 rfl ?_
            refine al_17 C b22 (by decide) rfl dX0_ringFrom_84 ?_
            refine m_topi (fun x46 ex46 => ?_)
            refine m_iadd C dX0_ringFrom_85 ?_
            refine m_topi (fun x47 ex47 => ?_)
            refine m_goto (tgt := 98) C dX0_ringFrom_86 (by decide) ?_
            exact J98 τ34 x47 i35 f36 b_a1 b_a2 b_a3 b_a4 b22 (iv_any x47)
  refine m_iload C dX0_ringFrom_0 rfl ?_
  refine m_aload_n C dX0_ringFrom_2 rfl rfl ?_
  refine g_16_4 C q1_154 dX0_ringFrom_3 ?_
  refine m_topi (fun x48 ex48 => ?_)
  refine m_icmp_lt (tgt := 10) C dX0_ringFrom_6 (by decide) (fun c49 => ?_) (fun c49 => ?_)
  · have f50 : a4.toInt < x48.toInt := by
      have q : _ := c49
      simp only [ti_nle, ti_nlt, ti_le, ti_lt, ti_eq, ti_ne, Classical.not_not] at q
      omega
    have b51 : IV a4 (-2147483648) 2147483646 := ⟨by have q1 := (iv_any a4); have q2 := (iv_any x48); omega, by have q1 := (iv_any a4); have q2 := (iv_any x48); omega⟩
    have b52 : IV x48 (-2147483647) 2147483647 := ⟨by have q1 := (iv_any a4); have q2 := (iv_any x48); omega, by have q1 := (iv_any a4); have q2 := (iv_any x48); omega⟩
    refine m_iload_n C dX0_ringFrom_10 rfl rfl ?_
    refine m_aload_n C dX0_ringFrom_11 rfl rfl ?_
    refine g_16_2 C q1_151 dX0_ringFrom_12 ?_
    refine m_topi (fun x53 ex53 => ?_)
    have b54 : IV x53 0 5 := by rw [ex53]; exact hI.1 16 0 2
    refine m_icmp_lt (tgt := 42) C dX0_ringFrom_15 (by decide) (fun c55 => ?_) (fun c55 => ?_)
    · have f56 : a1.toInt < x53.toInt := by
        have q : _ := c55
        simp only [ti_nle, ti_nlt, ti_le, ti_lt, ti_eq, ti_ne, Classical.not_not] at q
        omega
      have b57 : IV x53 2 5 := ⟨by have q1 := ha1; have q2 := b54; omega, by have q1 := ha1; have q2 := b54; omega⟩
      refine m_iconst (v := 0) C dX0_ringFrom_42 (by decide) ?_
      refine m_istore (L1 := [some (.ref (G.1 16 0)), some (.int a1), some (.int a2), some (.int a3), some (.int a4), some (.int 0), none, none]) C dX0_ringFrom_43 (by decide) rfl rfl ?_
      exact J45 ((5 - (0 : Int32).toInt).toNat + 1) σ 0 hI Fr.rf ha1 (iv_any a2) (iv_any a3) b51 (iv_wk kc_0 (by decide)) (Nat.lt_succ_self _)
    · have f58 : x53.toInt ≤ a1.toInt := by
        have q : _ := c55
        simp only [ti_nle, ti_nlt, ti_le, ti_lt, ti_eq, ti_ne, Classical.not_not] at q
        omega
      have b59 : IV x53 0 1 := ⟨by have q1 := b54; have q2 := ha1; omega, by have q1 := b54; have q2 := ha1; omega⟩
      refine m_aload_n C dX0_ringFrom_18 rfl rfl ?_
      refine m_iload C dX0_ringFrom_19 rfl ?_
      refine p_16_4 C q1_154 dX0_ringFrom_21 ?_
      refine m_tops (fun τ60 eτ60 => ?_)
      have i61 : Inv τ60 := eτ60 ▸ Inv.putF hI (by decide) rfl
      have f62 : Fr MS_X0_ringFrom_4 AS_X0_ringFrom_4 σ τ60 := eτ60 ▸ Fr.put (Fr.rf) (Or.inl (by decide))
      refine m_aload_n C dX0_ringFrom_24 rfl rfl ?_
      refine g_16_1 C q1_150 dX0_ringFrom_25 ?_
      refine m_iconst (v := 0) C dX0_ringFrom_28 (by decide) ?_
      refine m_aload_n C dX0_ringFrom_29 rfl rfl ?_
      refine g_16_3 C q1_152 dX0_ringFrom_30 ?_
      refine m_iconst (v := 0) C dX0_ringFrom_33 (by decide) ?_
      refine m_aload_n C dX0_ringFrom_34 rfl rfl ?_
      refine g_16_2 C q1_151 dX0_ringFrom_35 ?_
      refine m_eqs (w := x53) (show gV τ60 16 0 2 = x53 from gV_put eτ60 ex53.symm) ?_
      have q63 := b59
      have q64 := kt_0
      refine m_copy (t0 := 18) (n0 := 5) (t1 := 19) (n1 := 5) (st := []) C (by decide) (by decide) rfl (by decide) (by decide) (fun _ => rfl) ⟨by omega, by omega, by omega, by omega, by omega⟩ q3_234 q2_30 q2_29 q1_8 ⟨by decide, by decide +kernel⟩ dX0_ringFrom_38 ?_
      refine m_tops (fun τ65 eτ65 => ?_)
      have i66 : Inv τ65 := eτ65 ▸ Inv.putRow i61 (by decide) (fun _ => rfl)
      have f67 : Fr MS_X0_ringFrom_4 AS_X0_ringFrom_4 σ τ65 := eτ65 ▸ Fr.putRow (f62) (by decide)
      exact m_vret C hr hlk (by decide) (by decide) dX0_ringFrom_41 ⟨rfl, i66, f67⟩
  · have f68 : x48.toInt ≤ a4.toInt := by
      have q : _ := c49
      simp only [ti_nle, ti_nlt, ti_le, ti_lt, ti_eq, ti_ne, Classical.not_not] at q
      omega
    exact m_vret C hr hlk (by decide) (by decide) dX0_ringFrom_9 ⟨rfl, hI, Fr.rf⟩

abbrev MS_X0_ringFrom_5 : List (Nat × Nat) := [(16, 4)]
abbrev AS_X0_ringFrom_5 : List Nat := [18, 19]
set_option maxHeartbeats 4000000 in
set_option maxRecDepth 100000 in
theorem c_X0_ringFrom_5 (l : Launch) (G : Gt) (σ : Sg) (a1 : Int32) (a2 : Int32) (a3 : Int32) (a4 : Int32) (hI : Inv σ) (ha1 : IV a1 0 0) : Mc l G yX0_ringFrom cX0_ringFrom 8 none 6 195 0 0 [.ref (G.1 16 0), .int a1, .int a2, .int a3, .int a4] σ (PV fun τ => Inv τ ∧ Fr MS_X0_ringFrom_5 AS_X0_ringFrom_5 σ τ) := by
  refine Mc.of (L0 := [some (.ref (G.1 16 0)), some (.int a1), some (.int a2), some (.int a3), some (.int a4), none, none, none]) (by decide) (Nat.le_of_ble_eq_true rfl) rfl ?_
  intro p e s m args below meth c C hr hlk
  have C : Cx p s m args c cX0_ringFrom 8 "LeanTower$Bells" := C
  have k0 : (0 : Int32).toInt = 0 := by decide
  have k1 : (1 : Int32).toInt = 1 := by decide
  have J45 : ∀ (n : Nat) (τ : Sg) (y5 : Int32), Inv τ → Fr MS_X0_ringFrom_5 AS_X0_ringFrom_5 σ τ → IV a1 0 0 → IV a2 (-2147483648) 2147483647 → IV a3 (-2147483648) 2147483647 → IV a4 (-2147483648) 2147483646 → IV y5 0 5 → (5 - y5.toInt).toNat < n → MW p l e { frames := 6, cells := 0, slots := 0, locals := 195 } s m args below meth c (MQ below (QP G (PV fun τ => Inv τ ∧ Fr MS_X0_ringFrom_5 AS_X0_ringFrom_5 σ τ)) args s 0 0 (aG G)) 8 G 0 0 45 [some (.ref (G.1 16 0)), some (.int a1), some (.int a2), some (.int a3), some (.int a4), some (.int y5), none, none] [] τ := by
    intro n
    induction n with
    | zero => intro τ y5 iτ fτ b_a1 b_a2 b_a3 b_a4 b_y5 hm; exact absurd hm (Nat.not_lt_zero _)
    | succ n ih45 =>
      intro τ y5 iτ fτ b_a1 b_a2 b_a3 b_a4 b_y5 hm45
      have J98 : ∀ (τ : Sg) (z0 : Int32), Inv τ → Fr MS_X0_ringFrom_5 AS_X0_ringFrom_5 σ τ → IV a1 0 0 → IV a2 (-2147483648) 2147483647 → IV a3 (-2147483648) 2147483647 → IV a4 (-2147483648) 2147483646 → IV y5 0 4 → IV z0 (-2147483648) 2147483647 → MW p l e { frames := 6, cells := 0, slots := 0, locals := 195 } s m args below meth c (MQ below (QP G (PV fun τ => Inv τ ∧ Fr MS_X0_ringFrom_5 AS_X0_ringFrom_5 σ τ)) args s 0 0 (aG G)) 8 G 0 0 98 [some (.ref (G.1 16 0)), some (.int a1), some (.int a2), some (.int a3), some (.int a4), some (.int y5), none, none] [.int z0] τ := by
        intro τ z0 iτ fτ b_a1 b_a2 b_a3 b_a4 b_y5 b_z0
        refine m_istore (L1 := [some (.ref (G.1 16 0)), some (.int a1), some (.int a2), some (.int a3), some (.int a4), some (.int y5), some (.int z0), none]) C dX0_ringFrom_98 (by decide) rfl rfl ?_
        refine m_iload C dX0_ringFrom_100 rfl ?_
        refine m_iload C dX0_ringFrom_102 rfl ?_
        refine m_abs (st := [.int a4]) C q3_235 q3_66 q1_19 q3_67 ⟨by decide, Nat.le_of_ble_eq_true rfl⟩ (by decide) dX0_ringFrom_104 (fun x1 ex1 => ?_)
        refine m_max (st := []) C q3_236 q3_92 q1_19 q3_93 ⟨by decide, Nat.le_of_ble_eq_true rfl⟩ (by decide) dX0_ringFrom_107 (fun x2 ex2 => ?_)
        have tx2 : x2.toInt = max (a4.toInt) (x1.toInt) := by rw [ti_max ex2]
        refine m_istore (L1 := [some (.ref (G.1 16 0)), some (.int a1), some (.int a2), some (.int a3), some (.int a4), some (.int y5), some (.int z0), some (.int x2)]) C dX0_ringFrom_110 (by decide) rfl rfl ?_
        refine m_aload_n C dX0_ringFrom_112 rfl rfl ?_
        refine m_iload_n C dX0_ringFrom_113 rfl rfl ?_
        refine m_iconst (v := 1) C dX0_ringFrom_114 (by decide) ?_
        refine m_iadd C dX0_ringFrom_115 ?_
        refine m_topi (fun x3 ex3 => ?_)
        have tx3 : x3.toInt = a1.toInt + 1 := by rw [ex3, ti_addv b_a1 kc_1 (by decide), kt_1]
        have b4 : IV x3 1 1 := by rw [ex3]; exact iv_add b_a1 kc_1 (by decide)
        refine m_iload_n C dX0_ringFrom_116 rfl rfl ?_
        refine m_iconst (v := 1) C dX0_ringFrom_117 (by decide) ?_
        refine m_iload C dX0_ringFrom_118 rfl ?_
        refine m_ishl C dX0_ringFrom_120 ?_
        refine m_topi (fun x5 ex5 => ?_)
        have b6 : IV x5 1 16 := by rw [ex5]; exact iv_shl1 b_y5 (by decide)
        refine m_ior C dX0_ringFrom_121 ?_
        refine m_topi (fun x7 ex7 => ?_)
        refine m_iload C dX0_ringFrom_122 rfl ?_
        refine m_iload C dX0_ringFrom_124 rfl ?_
        refine m_callV (n := 4) (ci := 0) (st := []) C (c_X0_ringFrom_4 l G τ (x3) (x7) (z0) (x2) iτ b4) (by decide) (by decide) rfl rfl rfl q3_233 q3_230 q3_232 q0_24 q1_5 (by decide +kernel) rfl (by decide) (by decide) rfl (Nat.le_of_ble_eq_true rfl) dX0_ringFrom_126 ?_
        rintro _ τ8 ⟨rfl, i9, f10⟩
        have g13 : Fr MS_X0_ringFrom_5 AS_X0_ringFrom_5 σ τ8 := Fr.call (fτ) f10 (by decide)
        show MW p l e _ s m args below meth c _ 8 G 0 0 129 [some (.ref (G.1 16 0)), some (.int a1), some (.int a2), some (.int a3), some (.int a4), some (.int y5), some (.int z0), some (.int x2)] [] τ8
        obtain ⟨x15, ex15⟩ : ∃ y : Int32, y = y5 + 1 := ⟨_, rfl⟩
        have tx15 : x15.toInt = y5.toInt + 1 := by rw [ex15, ti_addv b_y5 kc_1 (by decide), kt_1]
        have b16 : IV x15 1 5 := by rw [ex15]; exact iv_add b_y5 kc_1 (by decide)
        refine m_iinc (v := x15) (L1 := [some (.ref (G.1 16 0)), some (.int a1), some (.int a2), some (.int a3), some (.int a4), some (.int x15), some (.int z0), some (.int x2)]) C dX0_ringFrom_129 rfl (by rw [ex15]; rfl) (by decide) rfl rfl ?_
        refine m_goto (tgt := 45) C dX0_ringFrom_132 (by decide) ?_
        refine m_sub (L1 := [some (.ref (G.1 16 0)), some (.int a1), some (.int a2), some (.int a3), some (.int a4), some (.int x15), none, none]) ⟨rfl, ⟨rfl, ⟨rfl, ⟨rfl, ⟨rfl, ⟨rfl, trivial⟩⟩⟩⟩⟩⟩ ?_
        exact ih45 τ8 x15 i9 g13 b_a1 b_a2 b_a3 b_a4 (iv_wk b16 (by decide)) (by have q := hm45; omega)
      refine m_iload C dX0_ringFrom_45 rfl ?_
      refine m_aload_n C dX0_ringFrom_47 rfl rfl ?_
      refine g_16_2 C q1_151 dX0_ringFrom_48 ?_
      refine m_topi (fun x17 ex17 => ?_)
      have b18 : IV x17 0 5 := by rw [ex17]; exact iτ.1 16 0 2
      refine m_icmp_ge (tgt := 135) C dX0_ringFrom_51 (by decide) (fun c19 => ?_) (fun c19 => ?_)
      · have f20 : x17.toInt ≤ y5.toInt := by
          have q : _ := c19
          simp only [ti_nle, ti_nlt, ti_le, ti_lt, ti_eq, ti_ne, Classical.not_not] at q
          omega
        exact m_vret C hr hlk (by decide) (by decide) dX0_ringFrom_135 ⟨rfl, iτ, fτ⟩
      · have f21 : y5.toInt < x17.toInt := by
          have q : _ := c19
          simp only [ti_nle, ti_nlt, ti_le, ti_lt, ti_eq, ti_ne, Classical.not_not] at q
          omega
        have b22 : IV y5 0 4 := ⟨by have q1 := b_y5; have q2 := b18; omega, by have q1 := b_y5; have q2 := b18; omega⟩
        have b23 : IV x17 1 5 := ⟨by have q1 := b_y5; have q2 := b18; omega, by have q1 := b_y5; have q2 := b18; omega⟩
        refine m_iload_n C dX0_ringFrom_54 rfl rfl ?_
        refine m_iload C dX0_ringFrom_55 rfl ?_
        refine m_ishr C dX0_ringFrom_57 ?_
        refine m_topi (fun x24 ex24 => ?_)
        refine m_iconst (v := 1) C dX0_ringFrom_58 (by decide) ?_
        refine m_iand C dX0_ringFrom_59 ?_
        refine m_topi (fun x25 ex25 => ?_)
        have b26 : IV x25 0 1 := by rw [ex25]; exact iv_and_r kc_1 (by decide)
        refine m_if_ne (tgt := 129) C dX0_ringFrom_60 (by decide) (fun c27 => ?_) (fun c27 => ?_)
        · have f28 : x25.toInt ≠ 0 := by
            have q : _ := c27
            simp only [ti_nle, ti_nlt, ti_le, ti_lt, ti_eq, ti_ne, Classical.not_not, kt_0] at q
            omega
          have b29 : IV x25 1 1 := ⟨by have q1 := b26; have q2 := kc_0; omega, by have q1 := b26; have q2 := kc_0; omega⟩
          obtain ⟨x30, ex30⟩ : ∃ y : Int32, y = y5 + 1 := ⟨_, rfl⟩
          have tx30 : x30.toInt = y5.toInt + 1 := by rw [ex30, ti_addv b22 kc_1 (by decide), kt_1]
          have b31 : IV x30 1 5 := by rw [ex30]; exact iv_add b22 kc_1 (by decide)
          refine m_iinc (v := x30) (L1 := [some (.ref (G.1 16 0)), some (.int a1), some (.int a2), some (.int a3), some (.int a4), some (.int x30), none, none]) C dX0_ringFrom_129 rfl (by rw [ex30]; rfl) (by decide) rfl rfl ?_
          refine m_goto (tgt := 45) C dX0_ringFrom_132 (by decide) ?_
          exact ih45 τ x30 iτ fτ b_a1 b_a2 b_a3 b_a4 (iv_wk b31 (by decide)) (by have q := hm45; omega)
        · have f32 : x25.toInt = 0 := by
            have q : _ := c27
            simp only [ti_nle, ti_nlt, ti_le, ti_lt, ti_eq, ti_ne, Classical.not_not, kt_0] at q
            omega
          have b33 : IV x25 0 0 := ⟨by have q1 := b26; have q2 := kc_0; omega, by have q1 := b26; have q2 := kc_0; omega⟩
          refine m_aload_n C dX0_ringFrom_63 rfl rfl ?_
          refine g_16_1 C q1_150 dX0_ringFrom_64 ?_
          refine m_iload_n C dX0_ringFrom_67 rfl rfl ?_
          refine m_iload C dX0_ringFrom_68 rfl ?_
          refine as_18 C b_a1 (by decide) rfl dX0_ringFrom_70 ?_
          refine m_tops (fun τ34 eτ34 => ?_)
          have i35 : Inv τ34 := eτ34 ▸ Inv.putF iτ (by decide) rfl
          have f36 : Fr MS_X0_ringFrom_5 AS_X0_ringFrom_5 σ τ34 := eτ34 ▸ Fr.put (fτ) (Or.inr (by decide))
          refine m_iload_n C dX0_ringFrom_71 rfl rfl ?_
          refine m_iconst (v := 2) C dX0_ringFrom_72 (by decide) ?_
          refine m_irem C dX0_ringFrom_73 (iv_nz kc_2 (by decide)) ?_
          refine m_topi (fun x37 ex37 => ?_)
          have b38 : IV x37 0 1 := by rw [ex37]; exact iv_rem b_a1 kc_2 (by decide)
          refine m_if_ne (tgt := 89) C dX0_ringFrom_74 (by decide) (fun c39 => ?_) (fun c39 => ?_)
          · have f40 : x37.toInt ≠ 0 := by
              have q : _ := c39
              simp only [ti_nle, ti_nlt, ti_le, ti_lt, ti_eq, ti_ne, Classical.not_not, kt_0] at q
              omega
            have b41 : IV x37 1 1 := ⟨by have q1 := b38; have q2 := kc_0; omega, by have q1 := b38; have q2 := kc_0; omega⟩
            refine m_iload_n C dX0_ringFrom_89 rfl rfl ?_
            refine m_aload_n C dX0_ringFrom_90 rfl rfl ?_
            refine g_16_0 C q1_149 dX0_ringFrom_91 ?_
            refine m_iload C dX0_ringFrom_94 rfl ?_
            refine al_17 C b22 (by decide) rfl dX0_ringFrom_96 ?_
            refine m_topi (fun x42 ex42 => ?_)
            refine m_isub C dX0_ringFrom_97 ?_
            refine m_topi (fun x43 ex43 => ?_)
            exact J98 τ34 x43 i35 f36 b_a1 b_a2 b_a3 b_a4 b22 (iv_any x43)
          · have f44 : x37.toInt = 0 := by
              have q : _ := c39
              simp only [ti_nle, ti_nlt, ti_le, ti_lt, ti_eq, ti_ne, Classical.not_not, kt_0] at q
              omega
            have b45 : IV x37 0 0 := ⟨by have q1 := b38; have q2 := kc_0; omega, by have q1 := b38; have q2 := kc_0; omega⟩
            refine m_iload_n C dX0_ringFrom_77 rfl rfl ?_
            refine m_aload_n C dX0_ringFrom_78 rfl rfl ?_
            refine g_16_0 C q1_149 dX0_ringFrom_79 ?_
            refine m_iload C dX0_ringFrom_82 rfl ?_
            refine al_17 C b22 (by decide) rfl dX0_ringFrom_84 ?_
            refine m_topi (fun x46 ex46 => ?_)
            refine m_iadd C dX0_ringFrom_85 ?_
            refine m_topi (fun x47 ex47 => ?_)
            refine m_goto (tgt := 98) C dX0_ringFrom_86 (by decide) ?_
            exact J98 τ34 x47 i35 f36 b_a1 b_a2 b_a3 b_a4 b22 (iv_any x47)
  refine m_iload C dX0_ringFrom_0 rfl ?_
  refine m_aload_n C dX0_ringFrom_2 rfl rfl ?_
  refine g_16_4 C q1_154 dX0_ringFrom_3 ?_
  refine m_topi (fun x48 ex48 => ?_)
  refine m_icmp_lt (tgt := 10) C dX0_ringFrom_6 (by decide) (fun c49 => ?_) (fun c49 => ?_)
  · have f50 : a4.toInt < x48.toInt := by
      have q : _ := c49
      simp only [ti_nle, ti_nlt, ti_le, ti_lt, ti_eq, ti_ne, Classical.not_not] at q
      omega
    have b51 : IV a4 (-2147483648) 2147483646 := ⟨by have q1 := (iv_any a4); have q2 := (iv_any x48); omega, by have q1 := (iv_any a4); have q2 := (iv_any x48); omega⟩
    have b52 : IV x48 (-2147483647) 2147483647 := ⟨by have q1 := (iv_any a4); have q2 := (iv_any x48); omega, by have q1 := (iv_any a4); have q2 := (iv_any x48); omega⟩
    refine m_iload_n C dX0_ringFrom_10 rfl rfl ?_
    refine m_aload_n C dX0_ringFrom_11 rfl rfl ?_
    refine g_16_2 C q1_151 dX0_ringFrom_12 ?_
    refine m_topi (fun x53 ex53 => ?_)
    have b54 : IV x53 0 5 := by rw [ex53]; exact hI.1 16 0 2
    refine m_icmp_lt (tgt := 42) C dX0_ringFrom_15 (by decide) (fun c55 => ?_) (fun c55 => ?_)
    · have f56 : a1.toInt < x53.toInt := by
        have q : _ := c55
        simp only [ti_nle, ti_nlt, ti_le, ti_lt, ti_eq, ti_ne, Classical.not_not] at q
        omega
      have b57 : IV x53 1 5 := ⟨by have q1 := ha1; have q2 := b54; omega, by have q1 := ha1; have q2 := b54; omega⟩
      refine m_iconst (v := 0) C dX0_ringFrom_42 (by decide) ?_
      refine m_istore (L1 := [some (.ref (G.1 16 0)), some (.int a1), some (.int a2), some (.int a3), some (.int a4), some (.int 0), none, none]) C dX0_ringFrom_43 (by decide) rfl rfl ?_
      exact J45 ((5 - (0 : Int32).toInt).toNat + 1) σ 0 hI Fr.rf ha1 (iv_any a2) (iv_any a3) b51 (iv_wk kc_0 (by decide)) (Nat.lt_succ_self _)
    · have f58 : x53.toInt ≤ a1.toInt := by
        have q : _ := c55
        simp only [ti_nle, ti_nlt, ti_le, ti_lt, ti_eq, ti_ne, Classical.not_not] at q
        omega
      have b59 : IV x53 0 0 := ⟨by have q1 := b54; have q2 := ha1; omega, by have q1 := b54; have q2 := ha1; omega⟩
      refine m_aload_n C dX0_ringFrom_18 rfl rfl ?_
      refine m_iload C dX0_ringFrom_19 rfl ?_
      refine p_16_4 C q1_154 dX0_ringFrom_21 ?_
      refine m_tops (fun τ60 eτ60 => ?_)
      have i61 : Inv τ60 := eτ60 ▸ Inv.putF hI (by decide) rfl
      have f62 : Fr MS_X0_ringFrom_5 AS_X0_ringFrom_5 σ τ60 := eτ60 ▸ Fr.put (Fr.rf) (Or.inl (by decide))
      refine m_aload_n C dX0_ringFrom_24 rfl rfl ?_
      refine g_16_1 C q1_150 dX0_ringFrom_25 ?_
      refine m_iconst (v := 0) C dX0_ringFrom_28 (by decide) ?_
      refine m_aload_n C dX0_ringFrom_29 rfl rfl ?_
      refine g_16_3 C q1_152 dX0_ringFrom_30 ?_
      refine m_iconst (v := 0) C dX0_ringFrom_33 (by decide) ?_
      refine m_aload_n C dX0_ringFrom_34 rfl rfl ?_
      refine g_16_2 C q1_151 dX0_ringFrom_35 ?_
      refine m_eqs (w := x53) (show gV τ60 16 0 2 = x53 from gV_put eτ60 ex53.symm) ?_
      have q63 := b59
      have q64 := kt_0
      refine m_copy (t0 := 18) (n0 := 5) (t1 := 19) (n1 := 5) (st := []) C (by decide) (by decide) rfl (by decide) (by decide) (fun _ => rfl) ⟨by omega, by omega, by omega, by omega, by omega⟩ q3_234 q2_30 q2_29 q1_8 ⟨by decide, by decide +kernel⟩ dX0_ringFrom_38 ?_
      refine m_tops (fun τ65 eτ65 => ?_)
      have i66 : Inv τ65 := eτ65 ▸ Inv.putRow i61 (by decide) (fun _ => rfl)
      have f67 : Fr MS_X0_ringFrom_5 AS_X0_ringFrom_5 σ τ65 := eτ65 ▸ Fr.putRow (f62) (by decide)
      exact m_vret C hr hlk (by decide) (by decide) dX0_ringFrom_41 ⟨rfl, i66, f67⟩
  · have f68 : x48.toInt ≤ a4.toInt := by
      have q : _ := c49
      simp only [ti_nle, ti_nlt, ti_le, ti_lt, ti_eq, ti_ne, Classical.not_not] at q
      omega
    exact m_vret C hr hlk (by decide) (by decide) dX0_ringFrom_9 ⟨rfl, hI, Fr.rf⟩

abbrev MS_X0_findBest : List (Nat × Nat) := [(16, 2), (16, 4)]
abbrev AS_X0_findBest : List Nat := [17, 18, 19]
set_option maxHeartbeats 4000000 in
set_option maxRecDepth 100000 in
theorem c_X0_findBest (l : Launch) (G : Gt) (σ : Sg) {j2 : Nat} (hj2 : j2 < 8) (a2 : Int32) (hI : Inv σ) (ha2 : IV a2 1 5) : Mc l G yX0_findBest cX0_findBest 4 none 7 222 0 0 [.ref (G.1 16 0), .ref (G.1 21 j2), .int a2] σ (PV fun τ => Inv τ ∧ Fr MS_X0_findBest AS_X0_findBest σ τ) := by
  refine Mc.of (L0 := [some (.ref (G.1 16 0)), some (.ref (G.1 21 j2)), some (.int a2), none]) (by decide) (Nat.le_of_ble_eq_true rfl) rfl ?_
  intro p e s m args below meth c C hr hlk
  have C : Cx p s m args c cX0_findBest 4 "LeanTower$Bells" := C
  have k0 : (0 : Int32).toInt = 0 := by decide
  have k1 : (1 : Int32).toInt = 1 := by decide
  have J40 : ∀ (τ : Sg), Inv τ → Fr MS_X0_findBest AS_X0_findBest σ τ → IV a2 1 5 → MW p l e { frames := 7, cells := 0, slots := 0, locals := 222 } s m args below meth c (MQ below (QP G (PV fun τ => Inv τ ∧ Fr MS_X0_findBest AS_X0_findBest σ τ)) args s 0 0 (aG G)) 4 G 0 0 40 [some (.ref (G.1 16 0)), none, none, none] [] τ := by
    intro τ iτ fτ b_a2
    refine m_aload_n C dX0_findBest_40 rfl rfl ?_
    refine m_bipush (v := 101) C dX0_findBest_41 (by decide) ?_
    refine p_16_4 C q1_154 dX0_findBest_43 ?_
    refine m_tops (fun τ1 eτ1 => ?_)
    have i2 : Inv τ1 := eτ1 ▸ Inv.putF iτ (by decide) rfl
    have f3 : Fr MS_X0_findBest AS_X0_findBest σ τ1 := eτ1 ▸ Fr.put (fτ) (Or.inl (by decide))
    refine m_aload_n C dX0_findBest_46 rfl rfl ?_
    refine m_iconst (v := 0) C dX0_findBest_47 (by decide) ?_
    refine m_iconst (v := 0) C dX0_findBest_48 (by decide) ?_
    refine m_iconst (v := 0) C dX0_findBest_49 (by decide) ?_
    refine m_iconst (v := 0) C dX0_findBest_50 (by decide) ?_
    refine m_callV (n := 4) (ci := 0) (st := []) C (c_X0_ringFrom_5 l G τ1 (0) (0) (0) (0) i2 kc_0) (by decide) (by decide) rfl rfl rfl q3_233 q3_230 q3_232 q0_24 q1_5 (by decide +kernel) rfl (by decide) (by decide) rfl (Nat.le_of_ble_eq_true rfl) dX0_findBest_51 ?_
    rintro _ τ4 ⟨rfl, i5, f6⟩
    have g9 : Fr MS_X0_findBest AS_X0_findBest σ τ4 := Fr.call (f3) f6 (by decide)
    show MW p l e _ s m args below meth c _ 4 G 0 0 54 [some (.ref (G.1 16 0)), none, none, none] [] τ4
    exact m_vret C hr hlk (by decide) (by decide) dX0_findBest_54 ⟨rfl, i5, g9⟩
  have J11 : ∀ (n : Nat) (τ : Sg) (y3 : Int32), Inv τ → Fr MS_X0_findBest AS_X0_findBest σ τ → IV a2 1 5 → IV y3 0 5 → (5 - y3.toInt).toNat < n → MW p l e { frames := 7, cells := 0, slots := 0, locals := 222 } s m args below meth c (MQ below (QP G (PV fun τ => Inv τ ∧ Fr MS_X0_findBest AS_X0_findBest σ τ)) args s 0 0 (aG G)) 4 G 0 0 11 [some (.ref (G.1 16 0)), some (.ref (G.1 21 j2)), none, some (.int y3)] [] τ := by
    intro n
    induction n with
    | zero => intro τ y3 iτ fτ b_a2 b_y3 hm; exact absurd hm (Nat.not_lt_zero _)
    | succ n ih11 =>
      intro τ y3 iτ fτ b_a2 b_y3 hm11
      refine m_iload_n C dX0_findBest_11 rfl rfl ?_
      refine m_aload_n C dX0_findBest_12 rfl rfl ?_
      refine g_16_2 C q1_151 dX0_findBest_13 ?_
      refine m_topi (fun x11 ex11 => ?_)
      have b12 : IV x11 0 5 := by rw [ex11]; exact iτ.1 16 0 2
      refine m_icmp_ge (tgt := 40) C dX0_findBest_16 (by decide) (fun c13 => ?_) (fun c13 => ?_)
      · have f14 : x11.toInt ≤ y3.toInt := by
          have q : _ := c13
          simp only [ti_nle, ti_nlt, ti_le, ti_lt, ti_eq, ti_ne, Classical.not_not] at q
          omega
        refine m_sub (L1 := [some (.ref (G.1 16 0)), none, none, none]) ⟨rfl, trivial⟩ ?_
        exact J40 τ iτ fτ b_a2
      · have f15 : y3.toInt < x11.toInt := by
          have q : _ := c13
          simp only [ti_nle, ti_nlt, ti_le, ti_lt, ti_eq, ti_ne, Classical.not_not] at q
          omega
        have b16 : IV y3 0 4 := ⟨by have q1 := b_y3; have q2 := b12; omega, by have q1 := b_y3; have q2 := b12; omega⟩
        have b17 : IV x11 1 5 := ⟨by have q1 := b_y3; have q2 := b12; omega, by have q1 := b_y3; have q2 := b12; omega⟩
        refine m_iload_n C dX0_findBest_19 rfl rfl ?_
        refine m_aload_n C dX0_findBest_20 rfl rfl ?_
        refine m_alen (t := 21) (v := 40) C (by decide) hj2 (fun _ => rfl) rfl dX0_findBest_21 ?_
        refine m_icmp_ge (tgt := 40) C dX0_findBest_22 (by decide) (fun c18 => ?_) (fun c18 => ?_)
        · exfalso
          have q : _ := c18
          simp only [ti_nle, ti_nlt, ti_le, ti_lt, ti_eq, ti_ne, Classical.not_not, kt_40] at q
          have q1 := b16; have q2 := kc_40; omega
        · have f20 : y3.toInt < 40 := by
            have q : _ := c18
            simp only [ti_nle, ti_nlt, ti_le, ti_lt, ti_eq, ti_ne, Classical.not_not, kt_40] at q
            omega
          refine m_aload_n C dX0_findBest_25 rfl rfl ?_
          refine g_16_0 C q1_149 dX0_findBest_26 ?_
          refine m_iload_n C dX0_findBest_29 rfl rfl ?_
          refine m_aload_n C dX0_findBest_30 rfl rfl ?_
          refine m_iload_n C dX0_findBest_31 rfl rfl ?_
          refine al_21 C hj2 b16 (by decide) rfl dX0_findBest_32 ?_
          refine m_topi (fun x21 ex21 => ?_)
          refine as_17 C b16 (by decide) rfl dX0_findBest_33 ?_
          refine m_tops (fun τ22 eτ22 => ?_)
          have i23 : Inv τ22 := eτ22 ▸ Inv.putF iτ (by decide) rfl
          have f24 : Fr MS_X0_findBest AS_X0_findBest σ τ22 := eτ22 ▸ Fr.put (fτ) (Or.inr (by decide))
          obtain ⟨x25, ex25⟩ : ∃ y : Int32, y = y3 + 1 := ⟨_, rfl⟩
          have tx25 : x25.toInt = y3.toInt + 1 := by rw [ex25, ti_addv b16 kc_1 (by decide), kt_1]
          have b26 : IV x25 1 5 := by rw [ex25]; exact iv_add b16 kc_1 (by decide)
          refine m_iinc (v := x25) (L1 := [some (.ref (G.1 16 0)), some (.ref (G.1 21 j2)), none, some (.int x25)]) C dX0_findBest_34 rfl (by rw [ex25]; rfl) (by decide) rfl rfl ?_
          refine m_goto (tgt := 11) C dX0_findBest_37 (by decide) ?_
          exact ih11 τ22 x25 i23 f24 b_a2 (iv_wk b26 (by decide)) (by have q := hm11; omega)
  refine m_aload_n C dX0_findBest_0 rfl rfl ?_
  refine m_iload_n C dX0_findBest_1 rfl rfl ?_
  refine m_iconst (v := 5) C dX0_findBest_2 (by decide) ?_
  refine m_min (st := [.ref (G.1 16 0)]) C q3_229 q3_69 q1_19 q3_70 ⟨by decide, Nat.le_of_ble_eq_true rfl⟩ (by decide) dX0_findBest_3 (fun x27 ex27 => ?_)
  have tx27 : x27.toInt = min (a2.toInt) (5) := by rw [ti_min ex27, kt_5]
  have b28 : IV x27 1 5 := ⟨by have q1 := ha2; have q2 := kc_5; omega, by have q1 := ha2; have q2 := kc_5; omega⟩
  refine p_16_2 C q1_151 dX0_findBest_6 ?_
  refine m_tops (fun τ29 eτ29 => ?_)
  have i30 : Inv τ29 := eτ29 ▸ Inv.put hI (by decide) (iv_wk b28 (by decide))
  have f31 : Fr MS_X0_findBest AS_X0_findBest σ τ29 := eτ29 ▸ Fr.put (Fr.rf) (Or.inl (by decide))
  refine m_iconst (v := 0) C dX0_findBest_9 (by decide) ?_
  refine m_istore_n (L1 := [some (.ref (G.1 16 0)), some (.ref (G.1 21 j2)), some (.int a2), some (.int 0)]) C dX0_findBest_10 rfl (by decide) rfl rfl ?_
  refine m_sub (L1 := [some (.ref (G.1 16 0)), some (.ref (G.1 21 j2)), none, some (.int 0)]) ⟨rfl, ⟨rfl, ⟨rfl, trivial⟩⟩⟩ ?_
  exact J11 ((5 - (0 : Int32).toInt).toNat + 1) τ29 0 i30 f31 ha2 (iv_wk kc_0 (by decide)) (Nat.lt_succ_self _)
