abbrev MS_X12_in : List (Nat × Nat) := []
abbrev AS_X12_in : List Nat := []
set_option maxHeartbeats 4000000 in
set_option maxRecDepth 100000 in
theorem c_X12_in (l : Launch) (G : Gt) (σ : Sg) (a1 : Int64) (a2 : Int64) (a3 : Int64) (hI : Inv σ) : Mc l G yX12_in cX12_in 6 (some .boolean) 0 0 0 0 [.long a1, .long a2, .long a3] σ (PI fun r τ => Inv τ ∧ Fr MS_X12_in AS_X12_in σ τ ∧ IV r 0 1 ∧ ((r.toInt = 1 ∧ a2.toInt ≤ a1.toInt ∧ a1.toInt ≤ a3.toInt) ∨ (r.toInt = 0 ∧ (a1.toInt < a2.toInt ∨ a3.toInt < a1.toInt)))) := by
  refine Mc.of (L0 := [some (.long a1), none, some (.long a2), none, some (.long a3), none]) (by decide) (Nat.le_of_ble_eq_true rfl) rfl ?_
  intro p e s m args below meth c C hr hlk
  have C : Cx p s m args c cX12_in 6 "LeanTowerModel" := C
  have k0 : (0 : Int32).toInt = 0 := by decide
  have k1 : (1 : Int32).toInt = 1 := by decide
  refine m_lload_n C dX12_in_0 rfl rfl ?_
  refine m_lload_n C dX12_in_1 rfl rfl ?_
  refine m_lcmp C dX12_in_2 ?_
  refine m_topi (fun x1 ex1 => ?_)
  have b2 : IV x1 (-1) 1 := by rw [ex1]; rcases lgc a1 a2 with q | q | q <;> omega
  have f3 := lgc a1 a2
  rw [← ex1] at f3
  refine m_if_lt (tgt := 17) C dX12_in_3 (by decide) (fun c6 => ?_) (fun c6 => ?_)
  · have f7 : x1.toInt < 0 := by
      have q : _ := c6
      simp only [ti_nle, ti_nlt, ti_le, ti_lt, ti_eq, ti_ne, Classical.not_not, kt_0] at q
      omega
    have b8 : IV x1 (-1) (-1) := ⟨by have q1 := b2; have q2 := kc_0; omega, by have q1 := b2; have q2 := kc_0; omega⟩
    refine m_iconst (v := 0) C dX12_in_17 (by decide) ?_
    exact m_zret C hr rfl hlk (by decide) (by decide) dX12_in_18 ⟨_, rfl, hI, Fr.rf, (iv_wk kc_0 (by decide)), (by omega)⟩
  · have f9 : 0 ≤ x1.toInt := by
      have q : _ := c6
      simp only [ti_nle, ti_nlt, ti_le, ti_lt, ti_eq, ti_ne, Classical.not_not, kt_0] at q
      omega
    have b10 : IV x1 0 1 := ⟨by have q1 := kc_0; have q2 := b2; omega, by have q1 := kc_0; have q2 := b2; omega⟩
    refine m_lload_n C dX12_in_6 rfl rfl ?_
    refine m_lload C dX12_in_7 rfl ?_
    refine m_lcmp C dX12_in_9 ?_
    refine m_topi (fun x11 ex11 => ?_)
    have b12 : IV x11 (-1) 1 := by rw [ex11]; rcases lgc a1 a3 with q | q | q <;> omega
    have f13 := lgc a1 a3
    rw [← ex11] at f13
    refine m_if_gt (tgt := 17) C dX12_in_10 (by decide) (fun c16 => ?_) (fun c16 => ?_)
    · have f17 : 0 < x11.toInt := by
        have q : _ := c16
        simp only [ti_nle, ti_nlt, ti_le, ti_lt, ti_eq, ti_ne, Classical.not_not, kt_0] at q
        omega
      have b18 : IV x11 1 1 := ⟨by have q1 := kc_0; have q2 := b12; omega, by have q1 := kc_0; have q2 := b12; omega⟩
      refine m_iconst (v := 0) C dX12_in_17 (by decide) ?_
      exact m_zret C hr rfl hlk (by decide) (by decide) dX12_in_18 ⟨_, rfl, hI, Fr.rf, (iv_wk kc_0 (by decide)), (by omega)⟩
    · have f19 : x11.toInt ≤ 0 := by
        have q : _ := c16
        simp only [ti_nle, ti_nlt, ti_le, ti_lt, ti_eq, ti_ne, Classical.not_not, kt_0] at q
        omega
      have b20 : IV x11 (-1) 0 := ⟨by have q1 := b12; have q2 := kc_0; omega, by have q1 := b12; have q2 := kc_0; omega⟩
      refine m_iconst (v := 1) C dX12_in_13 (by decide) ?_
      refine m_goto (tgt := 18) C dX12_in_14 (by decide) ?_
      exact m_zret C hr rfl hlk (by decide) (by decide) dX12_in_18 ⟨_, rfl, hI, Fr.rf, (iv_wk kc_1 (by decide)), (by omega)⟩

abbrev MS_X12_has : List (Nat × Nat) := []
abbrev AS_X12_has : List Nat := []
set_option maxHeartbeats 4000000 in
set_option maxRecDepth 100000 in
theorem c_X12_has (l : Launch) (G : Gt) (σ : Sg) (a1 : Int32) (a2 : Int32) (hI : Inv σ) : Mc l G yX12_has cX12_has 2 (some .boolean) 0 0 0 0 [.int a1, .int a2] σ (PI fun r τ => Inv τ ∧ Fr MS_X12_has AS_X12_has σ τ ∧ IV r 0 1) := by
  refine Mc.of (L0 := [some (.int a1), some (.int a2)]) (by decide) (Nat.le_of_ble_eq_true rfl) rfl ?_
  intro p e s m args below meth c C hr hlk
  have C : Cx p s m args c cX12_has 2 "LeanTowerModel" := C
  have k0 : (0 : Int32).toInt = 0 := by decide
  have k1 : (1 : Int32).toInt = 1 := by decide
  refine m_iload_n C dX12_has_0 rfl rfl ?_
  refine m_iload_n C dX12_has_1 rfl rfl ?_
  refine m_ishr C dX12_has_2 ?_
  refine m_topi (fun x1 ex1 => ?_)
  refine m_iconst (v := 1) C dX12_has_3 (by decide) ?_
  refine m_iand C dX12_has_4 ?_
  refine m_topi (fun x2 ex2 => ?_)
  have b3 : IV x2 0 1 := by rw [ex2]; exact iv_and_r kc_1 (by decide)
  refine m_iconst (v := 1) C dX12_has_5 (by decide) ?_
  refine m_icmp_ne (tgt := 13) C dX12_has_6 (by decide) (fun c4 => ?_) (fun c4 => ?_)
  · have f5 : x2.toInt ≠ 1 := by
      have q : _ := c4
      simp only [ti_nle, ti_nlt, ti_le, ti_lt, ti_eq, ti_ne, Classical.not_not, kt_1] at q
      omega
    have b6 : IV x2 0 0 := ⟨by have q1 := b3; have q2 := kc_1; omega, by have q1 := b3; have q2 := kc_1; omega⟩
    refine m_iconst (v := 0) C dX12_has_13 (by decide) ?_
    exact m_zret C hr rfl hlk (by decide) (by decide) dX12_has_14 ⟨_, rfl, hI, Fr.rf, (iv_wk kc_0 (by decide))⟩
  · have f7 : x2.toInt = 1 := by
      have q : _ := c4
      simp only [ti_nle, ti_nlt, ti_le, ti_lt, ti_eq, ti_ne, Classical.not_not, kt_1] at q
      omega
    have b8 : IV x2 1 1 := ⟨by have q1 := b3; have q2 := kc_1; omega, by have q1 := b3; have q2 := kc_1; omega⟩
    refine m_iconst (v := 1) C dX12_has_9 (by decide) ?_
    refine m_goto (tgt := 14) C dX12_has_10 (by decide) ?_
    exact m_zret C hr rfl hlk (by decide) (by decide) dX12_has_14 ⟨_, rfl, hI, Fr.rf, (iv_wk kc_1 (by decide))⟩

abbrev MS_X12_sizeOf : List (Nat × Nat) := []
abbrev AS_X12_sizeOf : List Nat := []
set_option maxHeartbeats 4000000 in
set_option maxRecDepth 100000 in
theorem c_X12_sizeOf (l : Launch) (G : Gt) (σ : Sg) (a1 : Int32) (hI : Inv σ) : Mc l G yX12_sizeOf cX12_sizeOf 1 (some .int) 0 0 0 0 [.int a1] σ (PI fun r τ => Inv τ ∧ Fr MS_X12_sizeOf AS_X12_sizeOf σ τ ∧ IV r (-2147483648) 2147483647) := by
  refine Mc.of (L0 := [some (.int a1)]) (by decide) (Nat.le_of_ble_eq_true rfl) rfl ?_
  intro p e s m args below meth c C hr hlk
  have C : Cx p s m args c cX12_sizeOf 1 "LeanTowerModel" := C
  have k0 : (0 : Int32).toInt = 0 := by decide
  have k1 : (1 : Int32).toInt = 1 := by decide
  refine m_iload_n C dX12_sizeOf_0 rfl rfl ?_
  refine m_if_ge (tgt := 9) C dX12_sizeOf_1 (by decide) (fun c1 => ?_) (fun c1 => ?_)
  · have f2 : 0 ≤ a1.toInt := by
      have q : _ := c1
      simp only [ti_nle, ti_nlt, ti_le, ti_lt, ti_eq, ti_ne, Classical.not_not, kt_0] at q
      omega
    have b3 : IV a1 0 2147483647 := ⟨by have q1 := kc_0; have q2 := (iv_any a1); omega, by have q1 := kc_0; have q2 := (iv_any a1); omega⟩
    refine m_iload_n C dX12_sizeOf_9 rfl rfl ?_
    exact m_iret C hr hlk (by decide) (by decide) dX12_sizeOf_10 ⟨_, rfl, hI, Fr.rf, (iv_wk b3 (by decide))⟩
  · have f4 : a1.toInt < 0 := by
      have q : _ := c1
      simp only [ti_nle, ti_nlt, ti_le, ti_lt, ti_eq, ti_ne, Classical.not_not, kt_0] at q
      omega
    have b5 : IV a1 (-2147483648) (-1) := ⟨by have q1 := (iv_any a1); have q2 := kc_0; omega, by have q1 := (iv_any a1); have q2 := kc_0; omega⟩
    refine m_iload_n C dX12_sizeOf_4 rfl rfl ?_
    refine m_ineg C dX12_sizeOf_5 ?_
    refine m_topi (fun x6 ex6 => ?_)
    refine m_goto (tgt := 10) C dX12_sizeOf_6 (by decide) ?_
    exact m_iret C hr hlk (by decide) (by decide) dX12_sizeOf_10 ⟨_, rfl, hI, Fr.rf, (iv_any x6)⟩

abbrev MS_X12_greater : List (Nat × Nat) := []
abbrev AS_X12_greater : List Nat := []
set_option maxHeartbeats 4000000 in
set_option maxRecDepth 100000 in
theorem c_X12_greater (l : Launch) (G : Gt) (σ : Sg) (a1 : Int32) (a2 : Int32) (hI : Inv σ) : Mc l G yX12_greater cX12_greater 2 (some .int) 0 0 0 0 [.int a1, .int a2] σ (PI fun r τ => Inv τ ∧ Fr MS_X12_greater AS_X12_greater σ τ ∧ IV r (-2147483648) 2147483647) := by
  refine Mc.of (L0 := [some (.int a1), some (.int a2)]) (by decide) (Nat.le_of_ble_eq_true rfl) rfl ?_
  intro p e s m args below meth c C hr hlk
  have C : Cx p s m args c cX12_greater 2 "LeanTowerModel" := C
  have k0 : (0 : Int32).toInt = 0 := by decide
  have k1 : (1 : Int32).toInt = 1 := by decide
  refine m_iload_n C dX12_greater_0 rfl rfl ?_
  refine m_iload_n C dX12_greater_1 rfl rfl ?_
  refine m_icmp_le (tgt := 9) C dX12_greater_2 (by decide) (fun c1 => ?_) (fun c1 => ?_)
  · have f2 : a1.toInt ≤ a2.toInt := by
      have q : _ := c1
      simp only [ti_nle, ti_nlt, ti_le, ti_lt, ti_eq, ti_ne, Classical.not_not] at q
      omega
    refine m_iload_n C dX12_greater_9 rfl rfl ?_
    exact m_iret C hr hlk (by decide) (by decide) dX12_greater_10 ⟨_, rfl, hI, Fr.rf, (iv_any a2)⟩
  · have f3 : a2.toInt < a1.toInt := by
      have q : _ := c1
      simp only [ti_nle, ti_nlt, ti_le, ti_lt, ti_eq, ti_ne, Classical.not_not] at q
      omega
    have b4 : IV a2 (-2147483648) 2147483646 := ⟨by have q1 := (iv_any a2); have q2 := (iv_any a1); omega, by have q1 := (iv_any a2); have q2 := (iv_any a1); omega⟩
    have b5 : IV a1 (-2147483647) 2147483647 := ⟨by have q1 := (iv_any a2); have q2 := (iv_any a1); omega, by have q1 := (iv_any a2); have q2 := (iv_any a1); omega⟩
    refine m_iload_n C dX12_greater_5 rfl rfl ?_
    refine m_goto (tgt := 10) C dX12_greater_6 (by decide) ?_
    exact m_iret C hr hlk (by decide) (by decide) dX12_greater_10 ⟨_, rfl, hI, Fr.rf, (iv_wk b5 (by decide))⟩

abbrev MS_X12_ones : List (Nat × Nat) := []
abbrev AS_X12_ones : List Nat := []
set_option maxHeartbeats 4000000 in
set_option maxRecDepth 100000 in
theorem c_X12_ones (l : Launch) (G : Gt) (σ : Sg) (a1 : Int32) (hI : Inv σ) : Mc l G yX12_ones cX12_ones 3 (some .int) 0 0 0 0 [.int a1] σ (PI fun r τ => Inv τ ∧ Fr MS_X12_ones AS_X12_ones σ τ ∧ IV r (-2147483648) 2147483647) := by
  refine Mc.of (L0 := [some (.int a1), none, none]) (by decide) (Nat.le_of_ble_eq_true rfl) rfl ?_
  intro p e s m args below meth c C hr hlk
  have C : Cx p s m args c cX12_ones 3 "LeanTowerModel" := C
  have k0 : (0 : Int32).toInt = 0 := by decide
  have k1 : (1 : Int32).toInt = 1 := by decide
  have J4 : ∀ (n : Nat) (τ : Sg) (y1 : Int32) (y2 : Int32), Inv τ → Fr MS_X12_ones AS_X12_ones σ τ → IV a1 (-2147483648) 2147483647 → IV y1 (-2147483648) 2147483647 → IV y2 0 7 → (7 - y2.toInt).toNat < n → MW p l e { frames := 0, cells := 0, slots := 0, locals := 0 } s m args below meth c (MQ below (QP G (PI fun r τ => Inv τ ∧ Fr MS_X12_ones AS_X12_ones σ τ ∧ IV r (-2147483648) 2147483647)) args s 0 0 (aG G)) 3 G 0 0 4 [some (.int a1), some (.int y1), some (.int y2)] [] τ := by
    intro n
    induction n with
    | zero => intro τ y1 y2 iτ fτ b_a1 b_y1 b_y2 hm; exact absurd hm (Nat.not_lt_zero _)
    | succ n ih4 =>
      intro τ y1 y2 iτ fτ b_a1 b_y1 b_y2 hm4
      refine m_iload_n C dX12_ones_4 rfl rfl ?_
      refine m_bipush (v := 7) C dX12_ones_5 (by decide) ?_
      refine m_icmp_ge (tgt := 24) C dX12_ones_7 (by decide) (fun c1 => ?_) (fun c1 => ?_)
      · have f2 : 7 ≤ y2.toInt := by
          have q : _ := c1
          simp only [ti_nle, ti_nlt, ti_le, ti_lt, ti_eq, ti_ne, Classical.not_not, kt_7] at q
          omega
        have b3 : IV y2 7 7 := ⟨by have q1 := kc_7; have q2 := b_y2; omega, by have q1 := kc_7; have q2 := b_y2; omega⟩
        refine m_iload_n C dX12_ones_24 rfl rfl ?_
        exact m_iret C hr hlk (by decide) (by decide) dX12_ones_25 ⟨_, rfl, iτ, fτ, b_y1⟩
      · have f4 : y2.toInt < 7 := by
          have q : _ := c1
          simp only [ti_nle, ti_nlt, ti_le, ti_lt, ti_eq, ti_ne, Classical.not_not, kt_7] at q
          omega
        have b5 : IV y2 0 6 := ⟨by have q1 := b_y2; have q2 := kc_7; omega, by have q1 := b_y2; have q2 := kc_7; omega⟩
        refine m_iload_n C dX12_ones_10 rfl rfl ?_
        refine m_iload_n C dX12_ones_11 rfl rfl ?_
        refine m_iload_n C dX12_ones_12 rfl rfl ?_
        refine m_ishr C dX12_ones_13 ?_
        refine m_topi (fun x6 ex6 => ?_)
        refine m_iconst (v := 1) C dX12_ones_14 (by decide) ?_
        refine m_iand C dX12_ones_15 ?_
        refine m_topi (fun x7 ex7 => ?_)
        have b8 : IV x7 0 1 := by rw [ex7]; exact iv_and_r kc_1 (by decide)
        refine m_iadd C dX12_ones_16 ?_
        refine m_topi (fun x9 ex9 => ?_)
        refine m_istore_n (L1 := [some (.int a1), some (.int x9), some (.int y2)]) C dX12_ones_17 rfl (by decide) rfl rfl ?_
        obtain ⟨x10, ex10⟩ : ∃ y : Int32, y = y2 + 1 := ⟨_, rfl⟩
        have tx10 : x10.toInt = y2.toInt + 1 := by rw [ex10, ti_addv b5 kc_1 (by decide), kt_1]
        have b11 : IV x10 1 7 := by rw [ex10]; exact iv_add b5 kc_1 (by decide)
        refine m_iinc (v := x10) (L1 := [some (.int a1), some (.int x9), some (.int x10)]) C dX12_ones_18 rfl (by rw [ex10]; rfl) (by decide) rfl rfl ?_
        refine m_goto (tgt := 4) C dX12_ones_21 (by decide) ?_
        exact ih4 τ x9 x10 iτ fτ b_a1 (iv_any x9) (iv_wk b11 (by decide)) (by have q := hm4; omega)
  refine m_iconst (v := 0) C dX12_ones_0 (by decide) ?_
  refine m_istore_n (L1 := [some (.int a1), some (.int 0), none]) C dX12_ones_1 rfl (by decide) rfl rfl ?_
  refine m_iconst (v := 0) C dX12_ones_2 (by decide) ?_
  refine m_istore_n (L1 := [some (.int a1), some (.int 0), some (.int 0)]) C dX12_ones_3 rfl (by decide) rfl rfl ?_
  exact J4 ((7 - (0 : Int32).toInt).toNat + 1) σ 0 0 hI Fr.rf (iv_any a1) (iv_wk kc_0 (by decide)) (iv_wk kc_0 (by decide)) (Nat.lt_succ_self _)

abbrev MS_X12_isRow : List (Nat × Nat) := []
abbrev AS_X12_isRow : List Nat := []
set_option maxHeartbeats 4000000 in
set_option maxRecDepth 100000 in
theorem c_X12_isRow (l : Launch) (G : Gt) (σ : Sg) (a1 : Int32) (hI : Inv σ) : Mc l G yX12_isRow cX12_isRow 1 (some .boolean) 1 25 0 0 [.int a1] σ (PI fun r τ => Inv τ ∧ Fr MS_X12_isRow AS_X12_isRow σ τ ∧ IV r 0 1 ∧ ((r.toInt = 1 ∧ 0 ≤ a1.toInt ∧ a1.toInt ≤ 7) ∨ (r.toInt = 0 ∧ (a1.toInt < 0 ∨ 7 < a1.toInt)))) := by
  refine Mc.of (L0 := [some (.int a1)]) (by decide) (Nat.le_of_ble_eq_true rfl) rfl ?_
  intro p e s m args below meth c C hr hlk
  have C : Cx p s m args c cX12_isRow 1 "LeanTowerModel" := C
  have k0 : (0 : Int32).toInt = 0 := by decide
  have k1 : (1 : Int32).toInt = 1 := by decide
  refine m_iload_n C dX12_isRow_0 rfl rfl ?_
  refine m_i2l C dX12_isRow_1 ?_
  refine m_lconst (v := 0) C dX12_isRow_2 (by decide) ?_
  refine m_ldc2 (v := 7) C dX12_isRow_3 q4_187 ?_
  refine m_callS (n := 3) (st := []) C (c_X12_in l G σ ((a1 : Int32).toInt64) (0) (7) hI ) q4_190 q4_188 q4_189 q1_7 (by decide +kernel) rfl (by decide) (by decide) rfl (Nat.le_of_ble_eq_true rfl) dX12_isRow_6 ?_
  rintro _ τ1 ⟨x4, rfl, i2, f3, b5, h7⟩
  have g6 : Fr MS_X12_isRow AS_X12_isRow σ τ1 := Fr.call (Fr.rf) f3 (by decide)
  have f8 := tl_i a1
  have f9 := kl_0
  have f10 := kl_7
  show MW p l e _ s m args below meth c _ 1 G 0 0 9 [some (.int a1)] [.int x4] τ1
  exact m_zret C hr (nar_z b5) hlk (by decide) (by decide) dX12_isRow_9 ⟨_, rfl, i2, g6, b5, (by omega)⟩

abbrev MS_X12_met : List (Nat × Nat) := [(22, 8)]
abbrev AS_X12_met : List Nat := []
set_option maxHeartbeats 4000000 in
set_option maxRecDepth 100000 in
theorem c_X12_met (l : Launch) (G : Gt) (σ : Sg) (a1 : Int32) (hI : Inv σ) : Mc l G yX12_met cX12_met 2 (some .int) 0 0 0 0 [.ref (G.1 22 0), .int a1] σ (PI fun r τ => Inv τ ∧ Fr MS_X12_met AS_X12_met σ τ ∧ IV r (-2147483648) 2147483647) := by
  refine Mc.of (L0 := [some (.ref (G.1 22 0)), some (.int a1)]) (by decide) (Nat.le_of_ble_eq_true rfl) rfl ?_
  intro p e s m args below meth c C hr hlk
  have C : Cx p s m args c cX12_met 2 "LeanTowerModel" := C
  have k0 : (0 : Int32).toInt = 0 := by decide
  have k1 : (1 : Int32).toInt = 1 := by decide
  refine m_aload_n C dX12_met_0 rfl rfl ?_
  refine m_iload_n C dX12_met_1 rfl rfl ?_
  refine p_22_8 C q4_124 dX12_met_2 ?_
  refine m_tops (fun τ1 eτ1 => ?_)
  have i2 : Inv τ1 := eτ1 ▸ Inv.putF hI (by decide) rfl
  have f3 : Fr MS_X12_met AS_X12_met σ τ1 := eτ1 ▸ Fr.put (Fr.rf) (Or.inl (by decide))
  refine m_ldc (v := (-1000010)) C dX12_met_5 q4_197 ?_
  refine m_iload_n C dX12_met_7 rfl rfl ?_
  refine m_isub C dX12_met_8 ?_
  refine m_topi (fun x4 ex4 => ?_)
  exact m_iret C hr hlk (by decide) (by decide) dX12_met_9 ⟨_, rfl, i2, f3, (iv_any x4)⟩

abbrev MS_X12_fine : List (Nat × Nat) := [(22, 8)]
abbrev AS_X12_fine : List Nat := []
set_option maxHeartbeats 4000000 in
set_option maxRecDepth 100000 in
theorem c_X12_fine (l : Launch) (G : Gt) (σ : Sg) (a1 : Int32) (hI : Inv σ) : Mc l G yX12_fine cX12_fine 2 (some .int) 0 0 0 0 [.ref (G.1 22 0), .int a1] σ (PI fun r τ => Inv τ ∧ Fr MS_X12_fine AS_X12_fine σ τ ∧ IV r (-2147483648) 2147483647) := by
  refine Mc.of (L0 := [some (.ref (G.1 22 0)), some (.int a1)]) (by decide) (Nat.le_of_ble_eq_true rfl) rfl ?_
  intro p e s m args below meth c C hr hlk
  have C : Cx p s m args c cX12_fine 2 "LeanTowerModel" := C
  have k0 : (0 : Int32).toInt = 0 := by decide
  have k1 : (1 : Int32).toInt = 1 := by decide
  refine m_aload_n C dX12_fine_0 rfl rfl ?_
  refine m_iconst (v := 0) C dX12_fine_1 (by decide) ?_
  refine p_22_8 C q4_124 dX12_fine_2 ?_
  refine m_tops (fun τ1 eτ1 => ?_)
  have i2 : Inv τ1 := eτ1 ▸ Inv.putF hI (by decide) rfl
  have f3 : Fr MS_X12_fine AS_X12_fine σ τ1 := eτ1 ▸ Fr.put (Fr.rf) (Or.inl (by decide))
  refine m_iload_n C dX12_fine_5 rfl rfl ?_
  exact m_iret C hr hlk (by decide) (by decide) dX12_fine_6 ⟨_, rfl, i2, f3, (iv_any a1)⟩

abbrev MS_X12_cut : List (Nat × Nat) := []
abbrev AS_X12_cut : List Nat := []
set_option maxHeartbeats 4000000 in
set_option maxRecDepth 100000 in
theorem c_X12_cut (l : Launch) (G : Gt) (σ : Sg) (a1 : Int32) (a2 : Int32) (hI : Inv σ) : Mc l G yX12_cut cX12_cut 2 (some .int) 0 0 0 0 [.int a1, .int a2] σ (PI fun r τ => Inv τ ∧ Fr MS_X12_cut AS_X12_cut σ τ ∧ IV r (-2147483648) 2147483647) := by
  refine Mc.of (L0 := [some (.int a1), some (.int a2)]) (by decide) (Nat.le_of_ble_eq_true rfl) rfl ?_
  intro p e s m args below meth c C hr hlk
  have C : Cx p s m args c cX12_cut 2 "LeanTowerModel" := C
  have k0 : (0 : Int32).toInt = 0 := by decide
  have k1 : (1 : Int32).toInt = 1 := by decide
  refine m_iload_n C dX12_cut_0 rfl rfl ?_
  refine m_if_ne (tgt := 9) C dX12_cut_1 (by decide) (fun c1 => ?_) (fun c1 => ?_)
  · have f2 : a1.toInt ≠ 0 := by
      have q : _ := c1
      simp only [ti_nle, ti_nlt, ti_le, ti_lt, ti_eq, ti_ne, Classical.not_not, kt_0] at q
      omega
    refine m_iload_n C dX12_cut_9 rfl rfl ?_
    refine m_iconst (v := 1) C dX12_cut_10 (by decide) ?_
    refine m_icmp_ne (tgt := 19) C dX12_cut_11 (by decide) (fun c3 => ?_) (fun c3 => ?_)
    · have f4 : a1.toInt ≠ 1 := by
        have q : _ := c3
        simp only [ti_nle, ti_nlt, ti_le, ti_lt, ti_eq, ti_ne, Classical.not_not, kt_1] at q
        omega
      refine m_iload_n C dX12_cut_19 rfl rfl ?_
      exact m_iret C hr hlk (by decide) (by decide) dX12_cut_20 ⟨_, rfl, hI, Fr.rf, (iv_any a2)⟩
    · have f5 : a1.toInt = 1 := by
        have q : _ := c3
        simp only [ti_nle, ti_nlt, ti_le, ti_lt, ti_eq, ti_ne, Classical.not_not, kt_1] at q
        omega
      have b6 : IV a1 1 1 := ⟨by have q1 := (iv_any a1); have q2 := kc_1; omega, by have q1 := (iv_any a1); have q2 := kc_1; omega⟩
      refine m_iload_n C dX12_cut_14 rfl rfl ?_
      refine m_i2s C dX12_cut_15 ?_
      refine m_topi (fun x7 ex7 => ?_)
      refine m_goto (tgt := 20) C dX12_cut_16 (by decide) ?_
      exact m_iret C hr hlk (by decide) (by decide) dX12_cut_20 ⟨_, rfl, hI, Fr.rf, (iv_any x7)⟩
  · have f8 : a1.toInt = 0 := by
      have q : _ := c1
      simp only [ti_nle, ti_nlt, ti_le, ti_lt, ti_eq, ti_ne, Classical.not_not, kt_0] at q
      omega
    have b9 : IV a1 0 0 := ⟨by have q1 := (iv_any a1); have q2 := kc_0; omega, by have q1 := (iv_any a1); have q2 := kc_0; omega⟩
    refine m_iload_n C dX12_cut_4 rfl rfl ?_
    refine m_i2b C dX12_cut_5 ?_
    refine m_topi (fun x10 ex10 => ?_)
    refine m_goto (tgt := 20) C dX12_cut_6 (by decide) ?_
    exact m_iret C hr hlk (by decide) (by decide) dX12_cut_20 ⟨_, rfl, hI, Fr.rf, (iv_any x10)⟩

abbrev MS_X12_row : List (Nat × Nat) := [(22, 8)]
abbrev AS_X12_row : List Nat := [25, 26, 27]
set_option maxHeartbeats 4000000 in
set_option maxRecDepth 100000 in
theorem c_X12_row (l : Launch) (G : Gt) (σ : Sg) (a1 : Int32) (a2 : Int32) (a3 : Int32) (hI : Inv σ) : Mc l G yX12_row cX12_row 5 (some .int) 2 45 0 0 [.ref (G.1 22 0), .int a1, .int a2, .int a3] σ (PI fun r τ => Inv τ ∧ Fr MS_X12_row AS_X12_row σ τ ∧ IV r (-2147483648) 2147483647) := by
  refine Mc.of (L0 := [some (.ref (G.1 22 0)), some (.int a1), some (.int a2), some (.int a3), none]) (by decide) (Nat.le_of_ble_eq_true rfl) rfl ?_
  intro p e s m args below meth c C hr hlk
  have C : Cx p s m args c cX12_row 5 "LeanTowerModel" := C
  have k0 : (0 : Int32).toInt = 0 := by decide
  have k1 : (1 : Int32).toInt = 1 := by decide
  have J55 : ∀ (n : Nat) (τ : Sg) (y4 : Int32), Inv τ → Fr MS_X12_row AS_X12_row σ τ → IV a1 0 7 → IV a2 0 2 → IV a3 0 40 → IV y4 0 40 → (40 - y4.toInt).toNat < n → MW p l e { frames := 2, cells := 0, slots := 0, locals := 45 } s m args below meth c (MQ below (QP G (PI fun r τ => Inv τ ∧ Fr MS_X12_row AS_X12_row σ τ ∧ IV r (-2147483648) 2147483647)) args s 0 0 (aG G)) 5 G 0 0 55 [some (.ref (G.1 22 0)), some (.int a1), none, some (.int a3), some (.int y4)] [] τ := by
    intro n
    induction n with
    | zero => intro τ y4 iτ fτ b_a1 b_a2 b_a3 b_y4 hm; exact absurd hm (Nat.not_lt_zero _)
    | succ n ih55 =>
      intro τ y4 iτ fτ b_a1 b_a2 b_a3 b_y4 hm55
      refine m_iload C dX12_row_55 rfl ?_
      refine m_iload_n C dX12_row_57 rfl rfl ?_
      refine m_icmp_ge (tgt := 80) C dX12_row_58 (by decide) (fun c1 => ?_) (fun c1 => ?_)
      · have f2 : a3.toInt ≤ y4.toInt := by
          have q : _ := c1
          simp only [ti_nle, ti_nlt, ti_le, ti_lt, ti_eq, ti_ne, Classical.not_not] at q
          omega
        refine m_aload_n C dX12_row_80 rfl rfl ?_
        refine m_iload_n C dX12_row_81 rfl rfl ?_
        refine m_callV (n := 1) (ci := 11) (st := []) C (c_X12_fine l G τ (a3) iτ ) (by decide) (by decide) rfl rfl rfl q4_201 q4_198 q4_200 q0_27 q1_7 (by decide +kernel) rfl (by decide) (by decide) rfl (Nat.le_of_ble_eq_true rfl) dX12_row_82 ?_
        rintro _ τ3 ⟨x6, rfl, i4, f5, b7⟩
        have g8 : Fr MS_X12_row AS_X12_row σ τ3 := Fr.call (fτ) f5 (by decide)
        show MW p l e _ s m args below meth c _ 5 G 0 0 85 [some (.ref (G.1 22 0)), some (.int a1), none, some (.int a3), some (.int y4)] [.int x6] τ3
        exact m_iret C hr hlk (by decide) (by decide) dX12_row_85 ⟨_, rfl, i4, g8, b7⟩
      · have f10 : y4.toInt < a3.toInt := by
          have q : _ := c1
          simp only [ti_nle, ti_nlt, ti_le, ti_lt, ti_eq, ti_ne, Classical.not_not] at q
          omega
        have b11 : IV y4 0 39 := ⟨by have q1 := b_y4; have q2 := b_a3; omega, by have q1 := b_y4; have q2 := b_a3; omega⟩
        have b12 : IV a3 1 40 := ⟨by have q1 := b_y4; have q2 := b_a3; omega, by have q1 := b_y4; have q2 := b_a3; omega⟩
        refine m_aload_n C dX12_row_61 rfl rfl ?_
        refine g_22_2 C q4_118 dX12_row_62 ?_
        refine m_bipush (v := 40) C dX12_row_65 (by decide) ?_
        refine m_iload_n C dX12_row_67 rfl rfl ?_
        refine m_imul C dX12_row_68 ?_
        refine m_topi (fun x13 ex13 => ?_)
        have tx13 : x13.toInt = 40 * a1.toInt := by rw [ex13, ti_mulv kc_40 b_a1 (by decide), kt_40]
        have b14 : IV x13 0 280 := by rw [ex13]; exact iv_mul kc_40 b_a1 (by decide)
        refine m_iload C dX12_row_69 rfl ?_
        refine m_iadd C dX12_row_71 ?_
        refine m_topi (fun x15 ex15 => ?_)
        have tx15 : x15.toInt = x13.toInt + y4.toInt := by rw [ex15, ti_addv b14 b11 (by decide)]
        have b16 : IV x15 0 319 := by rw [ex15]; exact iv_add b14 b11 (by decide)
        refine m_iconst (v := 0) C dX12_row_72 (by decide) ?_
        refine as_25 C b16 (by decide) rfl dX12_row_73 ?_
        refine m_tops (fun τ17 eτ17 => ?_)
        have i18 : Inv τ17 := eτ17 ▸ Inv.putF iτ (by decide) rfl
        have f19 : Fr MS_X12_row AS_X12_row σ τ17 := eτ17 ▸ Fr.put (fτ) (Or.inr (by decide))
        obtain ⟨x20, ex20⟩ : ∃ y : Int32, y = y4 + 1 := ⟨_, rfl⟩
        have tx20 : x20.toInt = y4.toInt + 1 := by rw [ex20, ti_addv b11 kc_1 (by decide), kt_1]
        have b21 : IV x20 1 40 := by rw [ex20]; exact iv_add b11 kc_1 (by decide)
        refine m_iinc (v := x20) (L1 := [some (.ref (G.1 22 0)), some (.int a1), none, some (.int a3), some (.int x20)]) C dX12_row_74 rfl (by rw [ex20]; rfl) (by decide) rfl rfl ?_
        refine m_goto (tgt := 55) C dX12_row_77 (by decide) ?_
        exact ih55 τ17 x20 i18 f19 b_a1 b_a2 (iv_wk b12 (by decide)) (iv_wk b21 (by decide)) (by have q := hm55; omega)
  refine m_iload_n C dX12_row_0 rfl rfl ?_
  refine m_callS (n := 1) (st := []) C (c_X12_isRow l G σ (a1) hI ) q4_186 q4_184 q4_185 q1_7 (by decide +kernel) rfl (by decide) (by decide) rfl (Nat.le_of_ble_eq_true rfl) dX12_row_1 ?_
  rintro _ τ22 ⟨x25, rfl, i23, f24, b26, h28⟩
  have g27 : Fr MS_X12_row AS_X12_row σ τ22 := Fr.call (Fr.rf) f24 (by decide)
  show MW p l e _ s m args below meth c _ 5 G 0 0 4 [some (.ref (G.1 22 0)), some (.int a1), some (.int a2), some (.int a3), none] [.int x25] τ22
  refine m_if_eq (tgt := 25) C dX12_row_4 (by decide) (fun c29 => ?_) (fun c29 => ?_)
  · have f30 : x25.toInt = 0 := by
      have q : _ := c29
      simp only [ti_nle, ti_nlt, ti_le, ti_lt, ti_eq, ti_ne, Classical.not_not, kt_0] at q
      omega
    have b31 : IV x25 0 0 := ⟨by have q1 := b26; have q2 := kc_0; omega, by have q1 := b26; have q2 := kc_0; omega⟩
    refine m_ldc (v := (-1000001)) C dX12_row_25 q4_192 ?_
    exact m_iret C hr hlk (by decide) (by decide) dX12_row_27 ⟨_, rfl, i23, g27, (iv_wk kc_m1000001 (by decide))⟩
  · have f32 : x25.toInt ≠ 0 := by
      have q : _ := c29
      simp only [ti_nle, ti_nlt, ti_le, ti_lt, ti_eq, ti_ne, Classical.not_not, kt_0] at q
      omega
    have b33 : IV x25 1 1 := ⟨by have q1 := b26; have q2 := kc_0; omega, by have q1 := b26; have q2 := kc_0; omega⟩
    have b34 : IV a1 0 7 := ⟨by have q1 := (iv_any a1); omega, by have q1 := (iv_any a1); omega⟩
    refine m_iload_n C dX12_row_7 rfl rfl ?_
    refine m_i2l C dX12_row_8 ?_
    refine m_lconst (v := 0) C dX12_row_9 (by decide) ?_
    refine m_ldc2 (v := 2) C dX12_row_10 q4_191 ?_
    refine m_callS (n := 3) (st := []) C (c_X12_in l G τ22 ((a2 : Int32).toInt64) (0) (2) i23 ) q4_190 q4_188 q4_189 q1_7 (by decide +kernel) rfl (by decide) (by decide) rfl (Nat.le_of_ble_eq_true rfl) dX12_row_13 ?_
    rintro _ τ35 ⟨x38, rfl, i36, f37, b39, h41⟩
    have g40 : Fr MS_X12_row AS_X12_row σ τ35 := Fr.call (g27) f37 (by decide)
    have f42 := tl_i a2
    have f43 := kl_0
    have f44 := kl_2
    show MW p l e _ s m args below meth c _ 5 G 0 0 16 [some (.ref (G.1 22 0)), some (.int a1), some (.int a2), some (.int a3), none] [.int x38] τ35
    refine m_if_eq (tgt := 25) C dX12_row_16 (by decide) (fun c45 => ?_) (fun c45 => ?_)
    · have f46 : x38.toInt = 0 := by
        have q : _ := c45
        simp only [ti_nle, ti_nlt, ti_le, ti_lt, ti_eq, ti_ne, Classical.not_not, kt_0] at q
        omega
      have b47 : IV x38 0 0 := ⟨by have q1 := b39; have q2 := kc_0; omega, by have q1 := b39; have q2 := kc_0; omega⟩
      refine m_ldc (v := (-1000001)) C dX12_row_25 q4_192 ?_
      exact m_iret C hr hlk (by decide) (by decide) dX12_row_27 ⟨_, rfl, i36, g40, (iv_wk kc_m1000001 (by decide))⟩
    · have f48 : x38.toInt ≠ 0 := by
        have q : _ := c45
        simp only [ti_nle, ti_nlt, ti_le, ti_lt, ti_eq, ti_ne, Classical.not_not, kt_0] at q
        omega
      have b49 : IV x38 1 1 := ⟨by have q1 := b39; have q2 := kc_0; omega, by have q1 := b39; have q2 := kc_0; omega⟩
      have b50 : IV a2 0 2 := ⟨by have q1 := (iv_any a2); omega, by have q1 := (iv_any a2); omega⟩
      refine m_iload_n C dX12_row_19 rfl rfl ?_
      refine m_bipush (v := 40) C dX12_row_20 (by decide) ?_
      refine m_icmp_le (tgt := 28) C dX12_row_22 (by decide) (fun c51 => ?_) (fun c51 => ?_)
      · have f52 : a3.toInt ≤ 40 := by
          have q : _ := c51
          simp only [ti_nle, ti_nlt, ti_le, ti_lt, ti_eq, ti_ne, Classical.not_not, kt_40] at q
          omega
        have b53 : IV a3 (-2147483648) 40 := ⟨by have q1 := (iv_any a3); have q2 := kc_40; omega, by have q1 := (iv_any a3); have q2 := kc_40; omega⟩
        refine m_iload_n C dX12_row_28 rfl rfl ?_
        refine m_if_ge (tgt := 38) C dX12_row_29 (by decide) (fun c54 => ?_) (fun c54 => ?_)
        · have f55 : 0 ≤ a3.toInt := by
            have q : _ := c54
            simp only [ti_nle, ti_nlt, ti_le, ti_lt, ti_eq, ti_ne, Classical.not_not, kt_0] at q
            omega
          have b56 : IV a3 0 40 := ⟨by have q1 := kc_0; have q2 := b53; omega, by have q1 := kc_0; have q2 := b53; omega⟩
          refine m_aload_n C dX12_row_38 rfl rfl ?_
          refine g_22_3 C q4_119 dX12_row_39 ?_
          refine m_iload_n C dX12_row_42 rfl rfl ?_
          refine m_iload_n C dX12_row_43 rfl rfl ?_
          refine as_26 C b34 (by decide) rfl dX12_row_44 ?_
          refine m_tops (fun τ57 eτ57 => ?_)
          have i58 : Inv τ57 := eτ57 ▸ Inv.putF i36 (by decide) rfl
          have f59 : Fr MS_X12_row AS_X12_row σ τ57 := eτ57 ▸ Fr.put (g40) (Or.inr (by decide))
          refine m_aload_n C dX12_row_45 rfl rfl ?_
          refine g_22_4 C q4_120 dX12_row_46 ?_
          refine m_iload_n C dX12_row_49 rfl rfl ?_
          refine m_iload_n C dX12_row_50 rfl rfl ?_
          refine as_27 C b34 (by decide) rfl dX12_row_51 ?_
          refine m_tops (fun τ60 eτ60 => ?_)
          have i61 : Inv τ60 := eτ60 ▸ Inv.put i58 (by decide) b56
          have f62 : Fr MS_X12_row AS_X12_row σ τ60 := eτ60 ▸ Fr.put (f59) (Or.inr (by decide))
          refine m_iconst (v := 0) C dX12_row_52 (by decide) ?_
          refine m_istore (L1 := [some (.ref (G.1 22 0)), some (.int a1), some (.int a2), some (.int a3), some (.int 0)]) C dX12_row_53 (by decide) rfl rfl ?_
          refine m_sub (L1 := [some (.ref (G.1 22 0)), some (.int a1), none, some (.int a3), some (.int 0)]) ⟨rfl, ⟨rfl, ⟨rfl, ⟨rfl, trivial⟩⟩⟩⟩ ?_
          exact J55 ((40 - (0 : Int32).toInt).toNat + 1) τ60 0 i61 f62 b34 b50 b56 (iv_wk kc_0 (by decide)) (Nat.lt_succ_self _)
        · have f63 : a3.toInt < 0 := by
            have q : _ := c54
            simp only [ti_nle, ti_nlt, ti_le, ti_lt, ti_eq, ti_ne, Classical.not_not, kt_0] at q
            omega
          have b64 : IV a3 (-2147483648) (-1) := ⟨by have q1 := b53; have q2 := kc_0; omega, by have q1 := b53; have q2 := kc_0; omega⟩
          refine m_aload_n C dX12_row_32 rfl rfl ?_
          refine m_iconst (v := 4) C dX12_row_33 (by decide) ?_
          refine m_callV (n := 1) (ci := 11) (st := []) C (c_X12_met l G τ35 (4) i36 ) (by decide) (by decide) rfl rfl rfl q4_196 q4_193 q4_195 q0_26 q1_7 (by decide +kernel) rfl (by decide) (by decide) rfl (Nat.le_of_ble_eq_true rfl) dX12_row_34 ?_
          rintro _ τ65 ⟨x68, rfl, i66, f67, b69⟩
          have g70 : Fr MS_X12_row AS_X12_row σ τ65 := Fr.call (g40) f67 (by decide)
          show MW p l e _ s m args below meth c _ 5 G 0 0 37 [some (.ref (G.1 22 0)), some (.int a1), some (.int a2), some (.int a3), none] [.int x68] τ65
          exact m_iret C hr hlk (by decide) (by decide) dX12_row_37 ⟨_, rfl, i66, g70, b69⟩
      · have f72 : 40 < a3.toInt := by
          have q : _ := c51
          simp only [ti_nle, ti_nlt, ti_le, ti_lt, ti_eq, ti_ne, Classical.not_not, kt_40] at q
          omega
        have b73 : IV a3 41 2147483647 := ⟨by have q1 := kc_40; have q2 := (iv_any a3); omega, by have q1 := kc_40; have q2 := (iv_any a3); omega⟩
        refine m_ldc (v := (-1000001)) C dX12_row_25 q4_192 ?_
        exact m_iret C hr hlk (by decide) (by decide) dX12_row_27 ⟨_, rfl, i36, g40, (iv_wk kc_m1000001 (by decide))⟩

abbrev MS_X12_set : List (Nat × Nat) := [(22, 8)]
abbrev AS_X12_set : List Nat := [25]
set_option maxHeartbeats 4000000 in
set_option maxRecDepth 100000 in
theorem c_X12_set (l : Launch) (G : Gt) (σ : Sg) (a1 : Int32) (a2 : Int32) (a3 : Int32) (hI : Inv σ) : Mc l G yX12_set cX12_set 4 (some .int) 2 45 0 0 [.ref (G.1 22 0), .int a1, .int a2, .int a3] σ (PI fun r τ => Inv τ ∧ Fr MS_X12_set AS_X12_set σ τ ∧ IV r (-2147483648) 2147483647) := by
  refine Mc.of (L0 := [some (.ref (G.1 22 0)), some (.int a1), some (.int a2), some (.int a3)]) (by decide) (Nat.le_of_ble_eq_true rfl) rfl ?_
  intro p e s m args below meth c C hr hlk
  have C : Cx p s m args c cX12_set 4 "LeanTowerModel" := C
  have k0 : (0 : Int32).toInt = 0 := by decide
  have k1 : (1 : Int32).toInt = 1 := by decide
  refine m_iload_n C dX12_set_0 rfl rfl ?_
  refine m_callS (n := 1) (st := []) C (c_X12_isRow l G σ (a1) hI ) q4_186 q4_184 q4_185 q1_7 (by decide +kernel) rfl (by decide) (by decide) rfl (Nat.le_of_ble_eq_true rfl) dX12_set_1 ?_
  rintro _ τ1 ⟨x4, rfl, i2, f3, b5, h7⟩
  have g6 : Fr MS_X12_set AS_X12_set σ τ1 := Fr.call (Fr.rf) f3 (by decide)
  show MW p l e _ s m args below meth c _ 4 G 0 0 4 [some (.ref (G.1 22 0)), some (.int a1), some (.int a2), some (.int a3)] [.int x4] τ1
  refine m_if_ne (tgt := 10) C dX12_set_4 (by decide) (fun c8 => ?_) (fun c8 => ?_)
  · have f9 : x4.toInt ≠ 0 := by
      have q : _ := c8
      simp only [ti_nle, ti_nlt, ti_le, ti_lt, ti_eq, ti_ne, Classical.not_not, kt_0] at q
      omega
    have b10 : IV x4 1 1 := ⟨by have q1 := b5; have q2 := kc_0; omega, by have q1 := b5; have q2 := kc_0; omega⟩
    have b11 : IV a1 0 7 := ⟨by have q1 := (iv_any a1); omega, by have q1 := (iv_any a1); omega⟩
    refine m_aload_n C dX12_set_10 rfl rfl ?_
    refine g_22_3 C q4_119 dX12_set_11 ?_
    refine m_iload_n C dX12_set_14 rfl rfl ?_
    refine al_26 C b11 (by decide) rfl dX12_set_15 ?_
    refine m_topi (fun x12 ex12 => ?_)
    refine m_if_ge (tgt := 25) C dX12_set_16 (by decide) (fun c13 => ?_) (fun c13 => ?_)
    · have f14 : 0 ≤ x12.toInt := by
        have q : _ := c13
        simp only [ti_nle, ti_nlt, ti_le, ti_lt, ti_eq, ti_ne, Classical.not_not, kt_0] at q
        omega
      have b15 : IV x12 0 2147483647 := ⟨by have q1 := kc_0; have q2 := (iv_any x12); omega, by have q1 := kc_0; have q2 := (iv_any x12); omega⟩
      refine m_iload_n C dX12_set_25 rfl rfl ?_
      refine m_i2l C dX12_set_26 ?_
      refine m_lconst (v := 0) C dX12_set_27 (by decide) ?_
      refine m_aload_n C dX12_set_28 rfl rfl ?_
      refine g_22_4 C q4_120 dX12_set_29 ?_
      refine m_iload_n C dX12_set_32 rfl rfl ?_
      refine al_27 C b11 (by decide) rfl dX12_set_33 ?_
      refine m_topi (fun x16 ex16 => ?_)
      have b17 : IV x16 0 40 := by rw [ex16]; exact i2.1 27 0 _
      refine m_iconst (v := 1) C dX12_set_34 (by decide) ?_
      refine m_isub C dX12_set_35 ?_
      refine m_topi (fun x18 ex18 => ?_)
      have tx18 : x18.toInt = x16.toInt - 1 := by rw [ex18, ti_subv b17 kc_1 (by decide), kt_1]
      have b19 : IV x18 (-1) 39 := by rw [ex18]; exact iv_sub b17 kc_1 (by decide)
      refine m_i2l C dX12_set_36 ?_
      refine m_callS (n := 3) (st := []) C (c_X12_in l G τ1 ((a2 : Int32).toInt64) (0) ((x18 : Int32).toInt64) i2 ) q4_190 q4_188 q4_189 q1_7 (by decide +kernel) rfl (by decide) (by decide) rfl (Nat.le_of_ble_eq_true rfl) dX12_set_37 ?_
      rintro _ τ20 ⟨x23, rfl, i21, f22, b24, h26⟩
      have g25 : Fr MS_X12_set AS_X12_set σ τ20 := Fr.call (g6) f22 (by decide)
      have f27 := tl_i a2
      have f28 := kl_0
      have f29 := tl_i x18
      have q30 := b19
      show MW p l e _ s m args below meth c _ 4 G 0 0 40 [some (.ref (G.1 22 0)), some (.int a1), some (.int a2), some (.int a3)] [.int x23] τ20
      refine m_if_ne (tgt := 49) C dX12_set_40 (by decide) (fun c31 => ?_) (fun c31 => ?_)
      · have f32 : x23.toInt ≠ 0 := by
          have q : _ := c31
          simp only [ti_nle, ti_nlt, ti_le, ti_lt, ti_eq, ti_ne, Classical.not_not, kt_0] at q
          omega
        have b33 : IV x23 1 1 := ⟨by have q1 := b24; have q2 := kc_0; omega, by have q1 := b24; have q2 := kc_0; omega⟩
        have b34 : IV a2 0 39 := ⟨by have q1 := (iv_any a2); omega, by have q1 := (iv_any a2); omega⟩
        refine m_aload_n C dX12_set_49 rfl rfl ?_
        refine g_22_2 C q4_118 dX12_set_50 ?_
        refine m_bipush (v := 40) C dX12_set_53 (by decide) ?_
        refine m_iload_n C dX12_set_55 rfl rfl ?_
        refine m_imul C dX12_set_56 ?_
        refine m_topi (fun x35 ex35 => ?_)
        have tx35 : x35.toInt = 40 * a1.toInt := by rw [ex35, ti_mulv kc_40 b11 (by decide), kt_40]
        have b36 : IV x35 0 280 := by rw [ex35]; exact iv_mul kc_40 b11 (by decide)
        refine m_iload_n C dX12_set_57 rfl rfl ?_
        refine m_iadd C dX12_set_58 ?_
        refine m_topi (fun x37 ex37 => ?_)
        have tx37 : x37.toInt = x35.toInt + a2.toInt := by rw [ex37, ti_addv b36 b34 (by decide)]
        have b38 : IV x37 0 319 := by rw [ex37]; exact iv_add b36 b34 (by decide)
        refine m_aload_n C dX12_set_59 rfl rfl ?_
        refine g_22_3 C q4_119 dX12_set_60 ?_
        refine m_iload_n C dX12_set_63 rfl rfl ?_
        refine al_26 C b11 (by decide) rfl dX12_set_64 ?_
        refine m_eqs ((f22 26 0 a1.toInt.toNat (by simp) (by decide)).trans ex12.symm) ?_
        refine m_iload_n C dX12_set_65 rfl rfl ?_
        refine m_callS (n := 2) (st := [.int x37, .ref (G.1 25 0)]) C (c_X12_cut l G τ20 (x12) (a3) i21 ) q4_208 q4_206 q4_207 q1_7 (by decide +kernel) rfl (by decide) (by decide) rfl (Nat.le_of_ble_eq_true rfl) dX12_set_66 ?_
        rintro _ τ39 ⟨x42, rfl, i40, f41, b43⟩
        have g44 : Fr MS_X12_set AS_X12_set σ τ39 := Fr.call (g25) f41 (by decide)
        show MW p l e _ s m args below meth c _ 4 G 0 0 69 [some (.ref (G.1 22 0)), some (.int a1), some (.int a2), some (.int a3)] [.int x42, .int x37, .ref (G.1 25 0)] τ39
        refine as_25 C b38 (by decide) rfl dX12_set_69 ?_
        refine m_tops (fun τ46 eτ46 => ?_)
        have i47 : Inv τ46 := eτ46 ▸ Inv.putF i40 (by decide) rfl
        have f48 : Fr MS_X12_set AS_X12_set σ τ46 := eτ46 ▸ Fr.put (g44) (Or.inr (by decide))
        refine m_aload_n C dX12_set_70 rfl rfl ?_
        refine m_aload_n C dX12_set_71 rfl rfl ?_
        refine g_22_2 C q4_118 dX12_set_72 ?_
        refine m_bipush (v := 40) C dX12_set_75 (by decide) ?_
        refine m_iload_n C dX12_set_77 rfl rfl ?_
        refine m_imul C dX12_set_78 ?_
        refine m_topi (fun x49 ex49 => ?_)
        have tx49 : x49.toInt = 40 * a1.toInt := by rw [ex49, ti_mulv kc_40 b11 (by decide), kt_40]
        have b50 : IV x49 0 280 := by rw [ex49]; exact iv_mul kc_40 b11 (by decide)
        refine m_iload_n C dX12_set_79 rfl rfl ?_
        refine m_iadd C dX12_set_80 ?_
        refine m_topi (fun x51 ex51 => ?_)
        have tx51 : x51.toInt = x49.toInt + a2.toInt := by rw [ex51, ti_addv b50 b34 (by decide)]
        have b52 : IV x51 0 319 := by rw [ex51]; exact iv_add b50 b34 (by decide)
        refine al_25 C b52 (by decide) rfl dX12_set_81 ?_
        refine m_topi (fun x53 ex53 => ?_)
        refine m_callV (n := 1) (ci := 11) (st := []) C (c_X12_fine l G τ46 (x53) i47 ) (by decide) (by decide) rfl rfl rfl q4_201 q4_198 q4_200 q0_27 q1_7 (by decide +kernel) rfl (by decide) (by decide) rfl (Nat.le_of_ble_eq_true rfl) dX12_set_82 ?_
        rintro _ τ54 ⟨x57, rfl, i55, f56, b58⟩
        have g59 : Fr MS_X12_set AS_X12_set σ τ54 := Fr.call (f48) f56 (by decide)
        show MW p l e _ s m args below meth c _ 4 G 0 0 85 [some (.ref (G.1 22 0)), some (.int a1), some (.int a2), some (.int a3)] [.int x57] τ54
        exact m_iret C hr hlk (by decide) (by decide) dX12_set_85 ⟨_, rfl, i55, g59, b58⟩
      · have f61 : x23.toInt = 0 := by
          have q : _ := c31
          simp only [ti_nle, ti_nlt, ti_le, ti_lt, ti_eq, ti_ne, Classical.not_not, kt_0] at q
          omega
        have b62 : IV x23 0 0 := ⟨by have q1 := b24; have q2 := kc_0; omega, by have q1 := b24; have q2 := kc_0; omega⟩
        refine m_aload_n C dX12_set_43 rfl rfl ?_
        refine m_iconst (v := 2) C dX12_set_44 (by decide) ?_
        refine m_callV (n := 1) (ci := 11) (st := []) C (c_X12_met l G τ20 (2) i21 ) (by decide) (by decide) rfl rfl rfl q4_196 q4_193 q4_195 q0_26 q1_7 (by decide +kernel) rfl (by decide) (by decide) rfl (Nat.le_of_ble_eq_true rfl) dX12_set_45 ?_
        rintro _ τ63 ⟨x66, rfl, i64, f65, b67⟩
        have g68 : Fr MS_X12_set AS_X12_set σ τ63 := Fr.call (g25) f65 (by decide)
        show MW p l e _ s m args below meth c _ 4 G 0 0 48 [some (.ref (G.1 22 0)), some (.int a1), some (.int a2), some (.int a3)] [.int x66] τ63
        exact m_iret C hr hlk (by decide) (by decide) dX12_set_48 ⟨_, rfl, i64, g68, b67⟩
    · have f70 : x12.toInt < 0 := by
        have q : _ := c13
        simp only [ti_nle, ti_nlt, ti_le, ti_lt, ti_eq, ti_ne, Classical.not_not, kt_0] at q
        omega
      have b71 : IV x12 (-2147483648) (-1) := ⟨by have q1 := (iv_any x12); have q2 := kc_0; omega, by have q1 := (iv_any x12); have q2 := kc_0; omega⟩
      refine m_aload_n C dX12_set_19 rfl rfl ?_
      refine m_iconst (v := 1) C dX12_set_20 (by decide) ?_
      refine m_callV (n := 1) (ci := 11) (st := []) C (c_X12_met l G τ1 (1) i2 ) (by decide) (by decide) rfl rfl rfl q4_196 q4_193 q4_195 q0_26 q1_7 (by decide +kernel) rfl (by decide) (by decide) rfl (Nat.le_of_ble_eq_true rfl) dX12_set_21 ?_
      rintro _ τ72 ⟨x75, rfl, i73, f74, b76⟩
      have g77 : Fr MS_X12_set AS_X12_set σ τ72 := Fr.call (g6) f74 (by decide)
      show MW p l e _ s m args below meth c _ 4 G 0 0 24 [some (.ref (G.1 22 0)), some (.int a1), some (.int a2), some (.int a3)] [.int x75] τ72
      exact m_iret C hr hlk (by decide) (by decide) dX12_set_24 ⟨_, rfl, i73, g77, b76⟩
  · have f79 : x4.toInt = 0 := by
      have q : _ := c8
      simp only [ti_nle, ti_nlt, ti_le, ti_lt, ti_eq, ti_ne, Classical.not_not, kt_0] at q
      omega
    have b80 : IV x4 0 0 := ⟨by have q1 := b5; have q2 := kc_0; omega, by have q1 := b5; have q2 := kc_0; omega⟩
    refine m_ldc (v := (-1000001)) C dX12_set_7 q4_192 ?_
    exact m_iret C hr hlk (by decide) (by decide) dX12_set_9 ⟨_, rfl, i2, g6, (iv_wk kc_m1000001 (by decide))⟩

abbrev MS_X12_drop : List (Nat × Nat) := [(22, 8)]
abbrev AS_X12_drop : List Nat := [26]
set_option maxHeartbeats 4000000 in
set_option maxRecDepth 100000 in
theorem c_X12_drop (l : Launch) (G : Gt) (σ : Sg) (a1 : Int32) (hI : Inv σ) : Mc l G yX12_drop cX12_drop 2 (some .int) 2 45 0 0 [.ref (G.1 22 0), .int a1] σ (PI fun r τ => Inv τ ∧ Fr MS_X12_drop AS_X12_drop σ τ ∧ IV r (-2147483648) 2147483647) := by
  refine Mc.of (L0 := [some (.ref (G.1 22 0)), some (.int a1)]) (by decide) (Nat.le_of_ble_eq_true rfl) rfl ?_
  intro p e s m args below meth c C hr hlk
  have C : Cx p s m args c cX12_drop 2 "LeanTowerModel" := C
  have k0 : (0 : Int32).toInt = 0 := by decide
  have k1 : (1 : Int32).toInt = 1 := by decide
  refine m_iload_n C dX12_drop_0 rfl rfl ?_
  refine m_callS (n := 1) (st := []) C (c_X12_isRow l G σ (a1) hI ) q4_186 q4_184 q4_185 q1_7 (by decide +kernel) rfl (by decide) (by decide) rfl (Nat.le_of_ble_eq_true rfl) dX12_drop_1 ?_
  rintro _ τ1 ⟨x4, rfl, i2, f3, b5, h7⟩
  have g6 : Fr MS_X12_drop AS_X12_drop σ τ1 := Fr.call (Fr.rf) f3 (by decide)
  show MW p l e _ s m args below meth c _ 2 G 0 0 4 [some (.ref (G.1 22 0)), some (.int a1)] [.int x4] τ1
  refine m_if_ne (tgt := 10) C dX12_drop_4 (by decide) (fun c8 => ?_) (fun c8 => ?_)
  · have f9 : x4.toInt ≠ 0 := by
      have q : _ := c8
      simp only [ti_nle, ti_nlt, ti_le, ti_lt, ti_eq, ti_ne, Classical.not_not, kt_0] at q
      omega
    have b10 : IV x4 1 1 := ⟨by have q1 := b5; have q2 := kc_0; omega, by have q1 := b5; have q2 := kc_0; omega⟩
    have b11 : IV a1 0 7 := ⟨by have q1 := (iv_any a1); omega, by have q1 := (iv_any a1); omega⟩
    refine m_aload_n C dX12_drop_10 rfl rfl ?_
    refine g_22_3 C q4_119 dX12_drop_11 ?_
    refine m_iload_n C dX12_drop_14 rfl rfl ?_
    refine al_26 C b11 (by decide) rfl dX12_drop_15 ?_
    refine m_topi (fun x12 ex12 => ?_)
    refine m_if_ge (tgt := 25) C dX12_drop_16 (by decide) (fun c13 => ?_) (fun c13 => ?_)
    · have f14 : 0 ≤ x12.toInt := by
        have q : _ := c13
        simp only [ti_nle, ti_nlt, ti_le, ti_lt, ti_eq, ti_ne, Classical.not_not, kt_0] at q
        omega
      have b15 : IV x12 0 2147483647 := ⟨by have q1 := kc_0; have q2 := (iv_any x12); omega, by have q1 := kc_0; have q2 := (iv_any x12); omega⟩
      refine m_aload_n C dX12_drop_25 rfl rfl ?_
      refine g_22_3 C q4_119 dX12_drop_26 ?_
      refine m_iload_n C dX12_drop_29 rfl rfl ?_
      refine m_iconst (v := (-1)) C dX12_drop_30 (by decide) ?_
      refine as_26 C b11 (by decide) rfl dX12_drop_31 ?_
      refine m_tops (fun τ16 eτ16 => ?_)
      have i17 : Inv τ16 := eτ16 ▸ Inv.putF i2 (by decide) rfl
      have f18 : Fr MS_X12_drop AS_X12_drop σ τ16 := eτ16 ▸ Fr.put (g6) (Or.inr (by decide))
      refine m_aload_n C dX12_drop_32 rfl rfl ?_
      refine m_aload_n C dX12_drop_33 rfl rfl ?_
      refine g_22_4 C q4_120 dX12_drop_34 ?_
      refine m_iload_n C dX12_drop_37 rfl rfl ?_
      refine al_27 C b11 (by decide) rfl dX12_drop_38 ?_
      refine m_topi (fun x19 ex19 => ?_)
      have b20 : IV x19 0 40 := by rw [ex19]; exact i17.1 27 0 _
      refine m_callV (n := 1) (ci := 11) (st := []) C (c_X12_fine l G τ16 (x19) i17 ) (by decide) (by decide) rfl rfl rfl q4_201 q4_198 q4_200 q0_27 q1_7 (by decide +kernel) rfl (by decide) (by decide) rfl (Nat.le_of_ble_eq_true rfl) dX12_drop_39 ?_
      rintro _ τ21 ⟨x24, rfl, i22, f23, b25⟩
      have g26 : Fr MS_X12_drop AS_X12_drop σ τ21 := Fr.call (f18) f23 (by decide)
      show MW p l e _ s m args below meth c _ 2 G 0 0 42 [some (.ref (G.1 22 0)), some (.int a1)] [.int x24] τ21
      exact m_iret C hr hlk (by decide) (by decide) dX12_drop_42 ⟨_, rfl, i22, g26, b25⟩
    · have f28 : x12.toInt < 0 := by
        have q : _ := c13
        simp only [ti_nle, ti_nlt, ti_le, ti_lt, ti_eq, ti_ne, Classical.not_not, kt_0] at q
        omega
      have b29 : IV x12 (-2147483648) (-1) := ⟨by have q1 := (iv_any x12); have q2 := kc_0; omega, by have q1 := (iv_any x12); have q2 := kc_0; omega⟩
      refine m_aload_n C dX12_drop_19 rfl rfl ?_
      refine m_iconst (v := 1) C dX12_drop_20 (by decide) ?_
      refine m_callV (n := 1) (ci := 11) (st := []) C (c_X12_met l G τ1 (1) i2 ) (by decide) (by decide) rfl rfl rfl q4_196 q4_193 q4_195 q0_26 q1_7 (by decide +kernel) rfl (by decide) (by decide) rfl (Nat.le_of_ble_eq_true rfl) dX12_drop_21 ?_
      rintro _ τ30 ⟨x33, rfl, i31, f32, b34⟩
      have g35 : Fr MS_X12_drop AS_X12_drop σ τ30 := Fr.call (g6) f32 (by decide)
      show MW p l e _ s m args below meth c _ 2 G 0 0 24 [some (.ref (G.1 22 0)), some (.int a1)] [.int x33] τ30
      exact m_iret C hr hlk (by decide) (by decide) dX12_drop_24 ⟨_, rfl, i31, g35, b34⟩
  · have f37 : x4.toInt = 0 := by
      have q : _ := c8
      simp only [ti_nle, ti_nlt, ti_le, ti_lt, ti_eq, ti_ne, Classical.not_not, kt_0] at q
      omega
    have b38 : IV x4 0 0 := ⟨by have q1 := b5; have q2 := kc_0; omega, by have q1 := b5; have q2 := kc_0; omega⟩
    refine m_ldc (v := (-1000001)) C dX12_drop_7 q4_192 ?_
    exact m_iret C hr hlk (by decide) (by decide) dX12_drop_9 ⟨_, rfl, i2, g6, (iv_wk kc_m1000001 (by decide))⟩

abbrev MS_X12_fault : List (Nat × Nat) := []
abbrev AS_X12_fault : List Nat := []
set_option maxHeartbeats 4000000 in
set_option maxRecDepth 100000 in
theorem c_X12_fault (l : Launch) (G : Gt) (σ : Sg) (hI : Inv σ) : Mc l G yX12_fault cX12_fault 1 (some .int) 0 0 0 0 [.ref (G.1 22 0)] σ (PI fun r τ => Inv τ ∧ Fr MS_X12_fault AS_X12_fault σ τ ∧ IV r (-2147483648) 2147483647) := by
  refine Mc.of (L0 := [some (.ref (G.1 22 0))]) (by decide) (Nat.le_of_ble_eq_true rfl) rfl ?_
  intro p e s m args below meth c C hr hlk
  have C : Cx p s m args c cX12_fault 1 "LeanTowerModel" := C
  have k0 : (0 : Int32).toInt = 0 := by decide
  have k1 : (1 : Int32).toInt = 1 := by decide
  refine m_aload_n C dX12_fault_0 rfl rfl ?_
  refine g_22_7 C q4_123 dX12_fault_1 ?_
  refine m_topi (fun x1 ex1 => ?_)
  exact m_iret C hr hlk (by decide) (by decide) dX12_fault_4 ⟨_, rfl, hI, Fr.rf, (iv_any x1)⟩

abbrev MS_X12_status : List (Nat × Nat) := []
abbrev AS_X12_status : List Nat := []
set_option maxHeartbeats 4000000 in
set_option maxRecDepth 100000 in
theorem c_X12_status (l : Launch) (G : Gt) (σ : Sg) (hI : Inv σ) : Mc l G yX12_status cX12_status 1 (some .int) 0 0 0 0 [.ref (G.1 22 0)] σ (PI fun r τ => Inv τ ∧ Fr MS_X12_status AS_X12_status σ τ ∧ IV r (-2147483648) 2147483647) := by
  refine Mc.of (L0 := [some (.ref (G.1 22 0))]) (by decide) (Nat.le_of_ble_eq_true rfl) rfl ?_
  intro p e s m args below meth c C hr hlk
  have C : Cx p s m args c cX12_status 1 "LeanTowerModel" := C
  have k0 : (0 : Int32).toInt = 0 := by decide
  have k1 : (1 : Int32).toInt = 1 := by decide
  refine m_aload_n C dX12_status_0 rfl rfl ?_
  refine g_22_8 C q4_124 dX12_status_1 ?_
  refine m_topi (fun x1 ex1 => ?_)
  exact m_iret C hr hlk (by decide) (by decide) dX12_status_4 ⟨_, rfl, hI, Fr.rf, (iv_any x1)⟩
