abbrev MS_X12_in : List (Nat × Nat) := []
abbrev AS_X12_in : List Nat := []
set_option maxHeartbeats 4000000 in
set_option maxRecDepth 100000 in
theorem c_X12_in (l : Launch) (G : Gt) (σ : Sg) (a1 : Int64) (a2 : Int64) (a3 : Int64) (hI : Inv σ) : Mc l G yX12_in cX12_in 6 (some .boolean) 0 0 0 0 [.long a1, .long a2, .long a3] σ (PI fun r τ => Inv τ ∧ Fr MS_X12_in AS_X12_in σ τ ∧ IV r 0 1 ∧ ((r.toInt = 1 ∧ a2.toInt ≤ a1.toInt ∧ a1.toInt ≤ a3.toInt) ∨ (r.toInt = 0 ∧ (a1.toInt < a2.toInt ∨ a3.toInt < a1.toInt)))) := by
  refine Mc.of (L0 := [some (.long a1), none, some (.long a2), none, some (.long a3), none]) (by decide) (Nat.le_of_ble_eq_true rfl) rfl ?_
  intro p e s m args below meth c C hr hlk
  have C : Cx p s m args c cX12_in 6 "LeanTowerModel" := C
  have k0 : (0 : Int32).toInt = 0 := by decide
  have k1 : (1 : Int32).toInt = 1 := by decide
  refine m_lload_n C dX12_in_0 rfl rfl ?_
  refine m_lload_n C dX12_in_1 rfl rfl ?_
  refine m_lcmp C dX12_in_2 ?_
  refine m_topi (fun x1 ex1 => ?_)
  have b2 : IV x1 (-1) 1 := by rw [ex1]; rcases lgc a1 a2 with q | q | q <;> omega
  have f3 := lgc a1 a2
  rw [← ex1] at f3
  refine m_if_lt (tgt := 17) C dX12_in_3 (by decide) (fun c6 => ?_) (fun c6 => ?_)
  · have f7 : x1.toInt < 0 := by
      have q : _ := c6
      simp only [ti_nle, ti_nlt, ti_le, ti_lt, ti_eq, ti_ne, Classical.not_not, kt_0] at q
      omega
    have b8 : IV x1 (-1) (-1) := ⟨by have q1 := b2; have q2 := kc_0; omega, by have q1 := b2; have q2 := kc_0; omega⟩
    refine m_iconst (v := 0) C dX12_in_17 (by decide) ?_
    exact m_zret C hr rfl hlk (by decide) (by decide) dX12_in_18 ⟨_, rfl, hI, Fr.rf, (iv_wk kc_0 (by decide)), (by omega)⟩
  · have f9 : 0 ≤ x1.toInt := by
      have q : _ := c6
      simp only [ti_nle, ti_nlt, ti_le, ti_lt, ti_eq, ti_ne, Classical.not_not, kt_0] at q
      omega
    have b10 : IV x1 0 1 := ⟨by have q1 := kc_0; have q2 := b2; omega, by have q1 := kc_0; have q2 := b2; omega⟩
    refine m_lload_n C dX12_in_6 rfl rfl ?_
    refine m_lload C dX12_in_7 rfl ?_
    refine m_lcmp C dX12_in_9 ?_
    refine m_topi (fun x11 ex11 => ?_)
    have b12 : IV x11 (-1) 1 := by rw [ex11]; rcases lgc a1 a3 with q | q | q <;> omega
    have f13 := lgc a1 a3
    rw [← ex11] at f13
    refine m_if_gt (tgt := 17) C dX12_in_10 (by decide) (fun c16 => ?_) (fun c16 => ?_)
    · have f17 : 0 < x11.toInt := by
        have q : _ := c16
        simp only [ti_nle, ti_nlt, ti_le, ti_lt, ti_eq, ti_ne, Classical.not_not, kt_0] at q
        omega
      have b18 : IV x11 1 1 := ⟨by have q1 := kc_0; have q2 := b12; omega, by have q1 := kc_0; have q2 := b12; omega⟩
      refine m_iconst (v := 0) C dX12_in_17 (by decide) ?_
      exact m_zret C hr rfl hlk (by decide) (by decide) dX12_in_18 ⟨_, rfl, hI, Fr.rf, (iv_wk kc_0 (by decide)), (by omega)⟩
    · have f19 : x11.toInt ≤ 0 := by
        have q : _ := c16
        simp only [ti_nle, ti_nlt, ti_le, ti_lt, ti_eq, ti_ne, Classical.not_not, kt_0] at q
        omega
      have b20 : IV x11 (-1) 0 := ⟨by have q1 := b12; have q2 := kc_0; omega, by have q1 := b12; have q2 := kc_0; omega⟩
      refine m_iconst (v := 1) C dX12_in_13 (by decide) ?_
      refine m_goto (tgt := 18) C dX12_in_14 (by decide) ?_
      exact m_zret C hr rfl hlk (by decide) (by decide) dX12_in_18 ⟨_, rfl, hI, Fr.rf, (iv_wk kc_1 (by decide)), (by omega)⟩

abbrev MS_X12_has : List (Nat × Nat) := []
abbrev AS_X12_has : List Nat := []
set_option maxHeartbeats 4000000 in
set_option maxRecDepth 100000 in
theorem c_X12_has (l : Launch) (G : Gt) (σ : Sg) (a1 : Int32) (a2 : Int32) (hI : Inv σ) : Mc l G yX12_has cX12_has 2 (some .boolean) 0 0 0 0 [.int a1, .int a2] σ (PI fun r τ => Inv τ ∧ Fr MS_X12_has AS_X12_has σ τ ∧ IV r 0 1) := by
  refine Mc.of (L0 := [some (.int a1), some (.int a2)]) (by decide) (Nat.le_of_ble_eq_true rfl) rfl ?_
  intro p e s m args below meth c C hr hlk
  have C : Cx p s m args c cX12_has 2 "LeanTowerModel" := C
  have k0 : (0 : Int32).toInt = 0 := by decide
  have k1 : (1 : Int32).toInt = 1 := by decide
  refine m_iload_n C dX12_has_0 rfl rfl ?_
  refine m_iload_n C dX12_has_1 rfl rfl ?_
  refine m_ishr C dX12_has_2 ?_
  refine m_topi (fun x1 ex1 => ?_)
  refine m_iconst (v := 1) C dX12_has_3 (by decide) ?_
  refine m_iand C dX12_has_4 ?_
  refine m_topi (fun x2 ex2 => ?_)
  have b3 : IV x2 0 1 := by rw [ex2]; exact iv_and_r kc_1 (by decide)
  refine m_iconst (v := 1) C dX12_has_5 (by decide) ?_
  refine m_icmp_ne (tgt := 13) C dX12_has_6 (by decide) (fun c4 => ?_) (fun c4 => ?_)
  · have f5 : x2.toInt ≠ 1 := by
      have q : _ := c4
      simp only [ti_nle, ti_nlt, ti_le, ti_lt, ti_eq, ti_ne, Classical.not_not, kt_1] at q
      omega
    have b6 : IV x2 0 0 := ⟨by have q1 := b3; have q2 := kc_1; omega, by have q1 := b3; have q2 := kc_1; omega⟩
    refine m_iconst (v := 0) C dX12_has_13 (by decide) ?_
    exact m_zret C hr rfl hlk (by decide) (by decide) dX12_has_14 ⟨_, rfl, hI, Fr.rf, (iv_wk kc_0 (by decide))⟩
  · have f7 : x2.toInt = 1 := by
      have q : _ := c4
      simp only [ti_nle, ti_nlt, ti_le, ti_lt, ti_eq, ti_ne, Classical.not_not, kt_1] at q
      omega
    have b8 : IV x2 1 1 := ⟨by have q1 := b3; have q2 := kc_1; omega, by have q1 := b3; have q2 := kc_1; omega⟩
    refine m_iconst (v := 1) C dX12_has_9 (by decide) ?_
    refine m_goto (tgt := 14) C dX12_has_10 (by decide) ?_
    exact m_zret C hr rfl hlk (by decide) (by decide) dX12_has_14 ⟨_, rfl, hI, Fr.rf, (iv_wk kc_1 (by decide))⟩

abbrev MS_X12_sizeOf : List (Nat × Nat) := []
abbrev AS_X12_sizeOf : List Nat := []
set_option maxHeartbeats 4000000 in
set_option maxRecDepth 100000 in
theorem c_X12_sizeOf (l : Launch) (G : Gt) (σ : Sg) (a1 : Int32) (hI : Inv σ) : Mc l G yX12_sizeOf cX12_sizeOf 1 (some .int) 0 0 0 0 [.int a1] σ (PI fun r τ => Inv τ ∧ Fr MS_X12_sizeOf AS_X12_sizeOf σ τ ∧ IV r (-2147483648) 2147483647) := by
  refine Mc.of (L0 := [some (.int a1)]) (by decide) (Nat.le_of_ble_eq_true rfl) rfl ?_
  intro p e s m args below meth c C hr hlk
  have C : Cx p s m args c cX12_sizeOf 1 "LeanTowerModel" := C
  have k0 : (0 : Int32).toInt = 0 := by decide
  have k1 : (1 : Int32).toInt = 1 := by decide
  refine m_iload_n C dX12_sizeOf_0 rfl rfl ?_
  refine m_if_ge (tgt := 9) C dX12_sizeOf_1 (by decide) (fun c1 => ?_) (fun c1 => ?_)
  · have f2 : 0 ≤ a1.toInt := by
      have q : _ := c1
      simp only [ti_nle, ti_nlt, ti_le, ti_lt, ti_eq, ti_ne, Classical.not_not, kt_0] at q
      omega
    have b3 : IV a1 0 2147483647 := ⟨by have q1 := kc_0; have q2 := (iv_any a1); omega, by have q1 := kc_0; have q2 := (iv_any a1); omega⟩
    refine m_iload_n C dX12_sizeOf_9 rfl rfl ?_
    exact m_iret C hr hlk (by decide) (by decide) dX12_sizeOf_10 ⟨_, rfl, hI, Fr.rf, (iv_wk b3 (by decide))⟩
  · have f4 : a1.toInt < 0 := by
      have q : _ := c1
      simp only [ti_nle, ti_nlt, ti_le, ti_lt, ti_eq, ti_ne, Classical.not_not, kt_0] at q
      omega
    have b5 : IV a1 (-2147483648) (-1) := ⟨by have q1 := (iv_any a1); have q2 := kc_0; omega, by have q1 := (iv_any a1); have q2 := kc_0; omega⟩
    refine m_iload_n C dX12_sizeOf_4 rfl rfl ?_
    refine m_ineg C dX12_sizeOf_5 ?_
    refine m_topi (fun x6 ex6 => ?_)
    refine m_goto (tgt := 10) C dX12_sizeOf_6 (by decide) ?_
    exact m_iret C hr hlk (by decide) (by decide) dX12_sizeOf_10 ⟨_, rfl, hI, Fr.rf, (iv_any x6)⟩

abbrev MS_X12_greater : List (Nat × Nat) := []
abbrev AS_X12_greater : List Nat := []
set_option maxHeartbeats 4000000 in
set_option maxRecDepth 100000 in
theorem c_X12_greater (l : Launch) (G : Gt) (σ : Sg) (a1 : Int32) (a2 : Int32) (hI : Inv σ) : Mc l G yX12_greater cX12_greater 2 (some .int) 0 0 0 0 [.int a1, .int a2] σ (PI fun r τ => Inv τ ∧ Fr MS_X12_greater AS_X12_greater σ τ ∧ IV r (-2147483648) 2147483647) := by
  refine Mc.of (L0 := [some (.int a1), some (.int a2)]) (by decide) (Nat.le_of_ble_eq_true rfl) rfl ?_
  intro p e s m args below meth c C hr hlk
  have C : Cx p s m args c cX12_greater 2 "LeanTowerModel" := C
  have k0 : (0 : Int32).toInt = 0 := by decide
  have k1 : (1 : Int32).toInt = 1 := by decide
  refine m_iload_n C dX12_greater_0 rfl rfl ?_
  refine m_iload_n C dX12_greater_1 rfl rfl ?_
  refine m_icmp_le (tgt := 9) C dX12_greater_2 (by decide) (fun c1 => ?_) (fun c1 => ?_)
  · have f2 : a1.toInt ≤ a2.toInt := by
      have q : _ := c1
      simp only [ti_nle, ti_nlt, ti_le, ti_lt, ti_eq, ti_ne, Classical.not_not] at q
      omega
    refine m_iload_n C dX12_greater_9 rfl rfl ?_
    exact m_iret C hr hlk (by decide) (by decide) dX12_greater_10 ⟨_, rfl, hI, Fr.rf, (iv_any a2)⟩
  · have f3 : a2.toInt < a1.toInt := by
      have q : _ := c1
      simp only [ti_nle, ti_nlt, ti_le, ti_lt, ti_eq, ti_ne, Classical.not_not] at q
      omega
    have b4 : IV a2 (-2147483648) 2147483646 := ⟨by have q1 := (iv_any a2); have q2 := (iv_any a1); omega, by have q1 := (iv_any a2); have q2 := (iv_any a1); omega⟩
    have b5 : IV a1 (-2147483647) 2147483647 := ⟨by have q1 := (iv_any a2); have q2 := (iv_any a1); omega, by have q1 := (iv_any a2); have q2 := (iv_any a1); omega⟩
    refine m_iload_n C dX12_greater_5 rfl rfl ?_
    refine m_goto (tgt := 10) C dX12_greater_6 (by decide) ?_
    exact m_iret C hr hlk (by decide) (by decide) dX12_greater_10 ⟨_, rfl, hI, Fr.rf, (iv_wk b5 (by decide))⟩

abbrev MS_X12_ones : List (Nat × Nat) := []
abbrev AS_X12_ones : List Nat := []
set_option maxHeartbeats 4000000 in
set_option maxRecDepth 100000 in
theorem c_X12_ones (l : Launch) (G : Gt) (σ : Sg) (a1 : Int32) (hI : Inv σ) : Mc l G yX12_ones cX12_ones 3 (some .int) 0 0 0 0 [.int a1] σ (PI fun r τ => Inv τ ∧ Fr MS_X12_ones AS_X12_ones σ τ ∧ IV r (-2147483648) 2147483647) := by
  refine Mc.of (L0 := [some (.int a1), none, none]) (by decide) (Nat.le_of_ble_eq_true rfl) rfl ?_
  intro p e s m args below meth c C hr hlk
  have C : Cx p s m args c cX12_ones 3 "LeanTowerModel" := C
  have k0 : (0 : Int32).toInt = 0 := by decide
  have k1 : (1 : Int32).toInt = 1 := by decide
  have J4 : ∀ (n : Nat) (τ : Sg) (y1 : Int32) (y2 : Int32), Inv τ → Fr MS_X12_ones AS_X12_ones σ τ → IV a1 (-2147483648) 2147483647 → IV y1 (-2147483648) 2147483647 → IV y2 0 7 → (7 - y2.toInt).toNat < n → MW p l e { frames := 0, cells := 0, slots := 0, locals := 0 } s m args below meth c (MQ below (QP G (PI fun r τ => Inv τ ∧ Fr MS_X12_ones AS_X12_ones σ τ ∧ IV r (-2147483648) 2147483647)) args s 0 0 (aG G)) 3 G 0 0 4 [some (.int a1), some (.int y1), some (.int y2)] [] τ := by
    intro n
    induction n with
    | zero => intro τ y1 y2 iτ fτ b_a1 b_y1 b_y2 hm; exact absurd hm (Nat.not_lt_zero _)
    | succ n ih4 =>
      intro τ y1 y2 iτ fτ b_a1 b_y1 b_y2 hm4
      refine m_iload_n C dX12_ones_4 rfl rfl ?_
      refine m_bipush (v := 7) C dX12_ones_5 (by decide) ?_
      refine m_icmp_ge (tgt := 24) C dX12_ones_7 (by decide) (fun c1 => ?_) (fun c1 => ?_)
      · have f2 : 7 ≤ y2.toInt := by
          have q : _ := c1
          simp only [ti_nle, ti_nlt, ti_le, ti_lt, ti_eq, ti_ne, Classical.not_not, kt_7] at q
          omega
        have b3 : IV y2 7 7 := ⟨by have q1 := kc_7; have q2 := b_y2; omega, by have q1 := kc_7; have q2 := b_y2; omega⟩
        refine m_iload_n C dX12_ones_24 rfl rfl ?_
        exact m_iret C hr hlk (by decide) (by decide) dX12_ones_25 ⟨_, rfl, iτ, fτ, b_y1⟩
      · have f4 : y2.toInt < 7 := by
          have q : _ := c1
          simp only [ti_nle, ti_nlt, ti_le, ti_lt, ti_eq, ti_ne, Classical.not_not, kt_7] at q
          omega
        have b5 : IV y2 0 6 := ⟨by have q1 := b_y2; have q2 := kc_7; omega, by have q1 := b_y2; have q2 := kc_7; omega⟩
        refine m_iload_n C dX12_ones_10 rfl rfl ?_
        refine m_iload_n C dX12_ones_11 rfl rfl ?_
        refine m_iload_n C dX12_ones_12 rfl rfl ?_
        refine m_ishr C dX12_ones_13 ?_
        refine m_topi (fun x6 ex6 => ?_)
        refine m_iconst (v := 1) C dX12_ones_14 (by decide) ?_
        refine m_iand C dX12_ones_15 ?_
        refine m_topi (fun x7 ex7 => ?_)
        have b8 : IV x7 0 1 := by rw [ex7]; exact iv_and_r kc_1 (by decide)
        refine m_iadd C dX12_ones_16 ?_
        refine m_topi (fun x9 ex9 => ?_)
        refine m_istore_n (L1 := [some (.int a1), some (.int x9), some (.int y2)]) C dX12_ones_17 rfl (by decide) rfl rfl ?_
        obtain ⟨x10, ex10⟩ : ∃ y : Int32, y = y2 + 1 := ⟨_, rfl⟩
        have tx10 : x10.toInt = y2.toInt + 1 := by rw [ex10, ti_addv b5 kc_1 (by decide), kt_1]
        have b11 : IV x10 1 7 := by rw [ex10]; exact iv_add b5 kc_1 (by decide)
        refine m_iinc (v := x10) (L1 := [some (.int a1), some (.int x9), some (.int x10)]) C dX12_ones_18 rfl (by rw [ex10]; rfl) (by decide) rfl rfl ?_
        refine m_goto (tgt := 4) C dX12_ones_21 (by decide) ?_
        exact ih4 τ x9 x10 iτ fτ b_a1 (iv_any x9) (iv_wk b11 (by decide)) (by have q := hm4; omega)
  refine m_iconst (v := 0) C dX12_ones_0 (by decide) ?_
  refine m_istore_n (L1 := [some (.int a1), some (.int 0), none]) C dX12_ones_1 rfl (by decide) rfl rfl ?_
  refine m_iconst (v := 0) C dX12_ones_2 (by decide) ?_
  refine m_istore_n (L1 := [some (.int a1), some (.int 0), some (.int 0)]) C dX12_ones_3 rfl (by decide) rfl rfl ?_
  exact J4 ((7 - (0 : Int32).toInt).toNat + 1) σ 0 0 hI Fr.rf (iv_any a1) (iv_wk kc_0 (by decide)) (iv_wk kc_0 (by decide)) (Nat.lt_succ_self _)

abbrev MS_X12_isRow : List (Nat × Nat) := []
abbrev AS_X12_isRow : List Nat := []
set_option maxHeartbeats 4000000 in
set_option maxRecDepth 100000 in
theorem c_X12_isRow (l : Launch) (G : Gt) (σ : Sg) (a1 : Int32) (hI : Inv σ) : Mc l G yX12_isRow cX12_isRow 1 (some .boolean) 1 25 0 0 [.int a1] σ (PI fun r τ => Inv τ ∧ Fr MS_X12_isRow AS_X12_isRow σ τ ∧ IV r 0 1 ∧ ((r.toInt = 1 ∧ 0 ≤ a1.toInt ∧ a1.toInt ≤ 7) ∨ (r.toInt = 0 ∧ (a1.toInt < 0 ∨ 7 < a1.toInt)))) := by
  refine Mc.of (L0 := [some (.int a1)]) (by decide) (Nat.le_of_ble_eq_true rfl) rfl ?_
  intro p e s m args below meth c C hr hlk
  have C : Cx p s m args c cX12_isRow 1 "LeanTowerModel" := C
  have k0 : (0 : Int32).toInt = 0 := by decide
  have k1 : (1 : Int32).toInt = 1 := by decide
  refine m_iload_n C dX12_isRow_0 rfl rfl ?_
  refine m_i2l C dX12_isRow_1 ?_
  refine m_lconst (v := 0) C dX12_isRow_2 (by decide) ?_
  refine m_ldc2 (v := 7) C dX12_isRow_3 q4_187 ?_
  refine m_callS (n := 3) (st := []) C (c_X12_in l G σ ((a1 : Int32).toInt64) (0) (7) hI ) q4_190 q4_188 q4_189 q1_7 (by decide +kernel) rfl (by decide) (by decide) rfl (Nat.le_of_ble_eq_true rfl) dX12_isRow_6 ?_
  rintro _ τ1 ⟨x4, rfl, i2, f3, b5, h7⟩
  have g6 : Fr MS_X12_isRow AS_X12_isRow σ τ1 := Fr.call (Fr.rf) f3 (by decide)
  have f8 := tl_i a1
  have f9 := kl_0
  have f10 := kl_7
  show MW p l e _ s m args below meth c _ 1 G 0 0 9 [some (.int a1)] [.int x4] τ1
  exact m_zret C hr (nar_z b5) hlk (by decide) (by decide) dX12_isRow_9 ⟨_, rfl, i2, g6, b5, (by omega)⟩

abbrev MS_X12_met : List (Nat × Nat) := [(22, 8)]
abbrev AS_X12_met : List Nat := []
set_option maxHeartbeats 4000000 in
set_option maxRecDepth 100000 in
theorem c_X12_met (l : Launch) (G : Gt) (σ : Sg) (a1 : Int32) (hI : Inv σ) (ha1 : IV a1 0 5) : Mc l G yX12_met cX12_met 2 (some .int) 0 0 0 0 [.ref (G.1 22 0), .int a1] σ (PI fun r τ => Inv τ ∧ Fr MS_X12_met AS_X12_met σ τ ∧ IV r (-1000015) (-1000010) ∧ r.toInt = -1000010 - a1.toInt) := by
  refine Mc.of (L0 := [some (.ref (G.1 22 0)), some (.int a1)]) (by decide) (Nat.le_of_ble_eq_true rfl) rfl ?_
  intro p e s m args below meth c C hr hlk
  have C : Cx p s m args c cX12_met 2 "LeanTowerModel" := C
  have k0 : (0 : Int32).toInt = 0 := by decide
  have k1 : (1 : Int32).toInt = 1 := by decide
  refine m_aload_n C dX12_met_0 rfl rfl ?_
  refine m_iload_n C dX12_met_1 rfl rfl ?_
  refine p_22_8 C q4_124 dX12_met_2 ?_
  refine m_tops (fun τ1 eτ1 => ?_)
  have i2 : Inv τ1 := eτ1 ▸ Inv.putF hI (by decide) rfl
  have f3 : Fr MS_X12_met AS_X12_met σ τ1 := eτ1 ▸ Fr.put (Fr.rf) (Or.inl (by decide))
  refine m_ldc (v := (-1000010)) C dX12_met_5 q4_197 ?_
  refine m_iload_n C dX12_met_7 rfl rfl ?_
  refine m_isub C dX12_met_8 ?_
  refine m_topi (fun x4 ex4 => ?_)
  have tx4 : x4.toInt = -1000010 - a1.toInt := by rw [ex4, ti_subv kc_m1000010 ha1 (by decide), kt_m1000010]
  have b5 : IV x4 (-1000015) (-1000010) := by rw [ex4]; exact iv_sub kc_m1000010 ha1 (by decide)
  exact m_iret C hr hlk (by decide) (by decide) dX12_met_9 ⟨_, rfl, i2, f3, b5, (by omega)⟩

abbrev MS_X12_fine : List (Nat × Nat) := [(22, 8)]
abbrev AS_X12_fine : List Nat := []
set_option maxHeartbeats 4000000 in
set_option maxRecDepth 100000 in
theorem c_X12_fine (l : Launch) (G : Gt) (σ : Sg) (a1 : Int32) (hI : Inv σ) : Mc l G yX12_fine cX12_fine 2 (some .int) 0 0 0 0 [.ref (G.1 22 0), .int a1] σ (PI fun r τ => Inv τ ∧ Fr MS_X12_fine AS_X12_fine σ τ ∧ IV r (-2147483648) 2147483647 ∧ r.toInt = a1.toInt) := by
  refine Mc.of (L0 := [some (.ref (G.1 22 0)), some (.int a1)]) (by decide) (Nat.le_of_ble_eq_true rfl) rfl ?_
  intro p e s m args below meth c C hr hlk
  have C : Cx p s m args c cX12_fine 2 "LeanTowerModel" := C
  have k0 : (0 : Int32).toInt = 0 := by decide
  have k1 : (1 : Int32).toInt = 1 := by decide
  refine m_aload_n C dX12_fine_0 rfl rfl ?_
  refine m_iconst (v := 0) C dX12_fine_1 (by decide) ?_
  refine p_22_8 C q4_124 dX12_fine_2 ?_
  refine m_tops (fun τ1 eτ1 => ?_)
  have i2 : Inv τ1 := eτ1 ▸ Inv.putF hI (by decide) rfl
  have f3 : Fr MS_X12_fine AS_X12_fine σ τ1 := eτ1 ▸ Fr.put (Fr.rf) (Or.inl (by decide))
  refine m_iload_n C dX12_fine_5 rfl rfl ?_
  exact m_iret C hr hlk (by decide) (by decide) dX12_fine_6 ⟨_, rfl, i2, f3, (iv_any a1), (by omega)⟩

abbrev MS_X12_cut : List (Nat × Nat) := []
abbrev AS_X12_cut : List Nat := []
set_option maxHeartbeats 4000000 in
set_option maxRecDepth 100000 in
theorem c_X12_cut (l : Launch) (G : Gt) (σ : Sg) (a1 : Int32) (a2 : Int32) (hI : Inv σ) : Mc l G yX12_cut cX12_cut 2 (some .int) 0 0 0 0 [.int a1, .int a2] σ (PI fun r τ => Inv τ ∧ Fr MS_X12_cut AS_X12_cut σ τ ∧ IV r (-2147483648) 2147483647) := by
  refine Mc.of (L0 := [some (.int a1), some (.int a2)]) (by decide) (Nat.le_of_ble_eq_true rfl) rfl ?_
  intro p e s m args below meth c C hr hlk
  have C : Cx p s m args c cX12_cut 2 "LeanTowerModel" := C
  have k0 : (0 : Int32).toInt = 0 := by decide
  have k1 : (1 : Int32).toInt = 1 := by decide
  refine m_iload_n C dX12_cut_0 rfl rfl ?_
  refine m_if_ne (tgt := 9) C dX12_cut_1 (by decide) (fun c1 => ?_) (fun c1 => ?_)
  · have f2 : a1.toInt ≠ 0 := by
      have q : _ := c1
      simp only [ti_nle, ti_nlt, ti_le, ti_lt, ti_eq, ti_ne, Classical.not_not, kt_0] at q
      omega
    refine m_iload_n C dX12_cut_9 rfl rfl ?_
    refine m_iconst (v := 1) C dX12_cut_10 (by decide) ?_
    refine m_icmp_ne (tgt := 19) C dX12_cut_11 (by decide) (fun c3 => ?_) (fun c3 => ?_)
    · have f4 : a1.toInt ≠ 1 := by
        have q : _ := c3
        simp only [ti_nle, ti_nlt, ti_le, ti_lt, ti_eq, ti_ne, Classical.not_not, kt_1] at q
        omega
      refine m_iload_n C dX12_cut_19 rfl rfl ?_
      exact m_iret C hr hlk (by decide) (by decide) dX12_cut_20 ⟨_, rfl, hI, Fr.rf, (iv_any a2)⟩
    · have f5 : a1.toInt = 1 := by
        have q : _ := c3
        simp only [ti_nle, ti_nlt, ti_le, ti_lt, ti_eq, ti_ne, Classical.not_not, kt_1] at q
        omega
      have b6 : IV a1 1 1 := ⟨by have q1 := (iv_any a1); have q2 := kc_1; omega, by have q1 := (iv_any a1); have q2 := kc_1; omega⟩
      refine m_iload_n C dX12_cut_14 rfl rfl ?_
      refine m_i2s C dX12_cut_15 ?_
      refine m_topi (fun x7 ex7 => ?_)
      refine m_goto (tgt := 20) C dX12_cut_16 (by decide) ?_
      exact m_iret C hr hlk (by decide) (by decide) dX12_cut_20 ⟨_, rfl, hI, Fr.rf, (iv_any x7)⟩
  · have f8 : a1.toInt = 0 := by
      have q : _ := c1
      simp only [ti_nle, ti_nlt, ti_le, ti_lt, ti_eq, ti_ne, Classical.not_not, kt_0] at q
      omega
    have b9 : IV a1 0 0 := ⟨by have q1 := (iv_any a1); have q2 := kc_0; omega, by have q1 := (iv_any a1); have q2 := kc_0; omega⟩
    refine m_iload_n C dX12_cut_4 rfl rfl ?_
    refine m_i2b C dX12_cut_5 ?_
    refine m_topi (fun x10 ex10 => ?_)
    refine m_goto (tgt := 20) C dX12_cut_6 (by decide) ?_
    exact m_iret C hr hlk (by decide) (by decide) dX12_cut_20 ⟨_, rfl, hI, Fr.rf, (iv_any x10)⟩

abbrev MS_X12_row : List (Nat × Nat) := [(22, 8)]
abbrev AS_X12_row : List Nat := [25, 26, 27]
set_option maxHeartbeats 4000000 in
set_option maxRecDepth 100000 in
theorem c_X12_row (l : Launch) (G : Gt) (σ : Sg) (a1 : Int32) (a2 : Int32) (a3 : Int32) (hI : Inv σ) : Mc l G yX12_row cX12_row 5 (some .int) 2 45 0 0 [.ref (G.1 22 0), .int a1, .int a2, .int a3] σ (PI fun r τ => Inv τ ∧ Fr MS_X12_row AS_X12_row σ τ ∧ IV r (-2147483648) 2147483647 ∧ (((a1.toInt < 0 ∨ 7 < a1.toInt ∨ a2.toInt < 0 ∨ 2 < a2.toInt ∨ 40 < a3.toInt) ∧ r.toInt = -1000001) ∨ ((0 ≤ a1.toInt ∧ a1.toInt ≤ 7 ∧ 0 ≤ a2.toInt ∧ a2.toInt ≤ 2 ∧ a3.toInt < 0) ∧ r.toInt = -1000014) ∨ ((0 ≤ a1.toInt ∧ a1.toInt ≤ 7 ∧ 0 ≤ a2.toInt ∧ a2.toInt ≤ 2 ∧ 0 ≤ a3.toInt ∧ a3.toInt ≤ 40) ∧ r.toInt = a3.toInt))) := by
  refine Mc.of (L0 := [some (.ref (G.1 22 0)), some (.int a1), some (.int a2), some (.int a3), none]) (by decide) (Nat.le_of_ble_eq_true rfl) rfl ?_
  intro p e s m args below meth c C hr hlk
  have C : Cx p s m args c cX12_row 5 "LeanTowerModel" := C
  have k0 : (0 : Int32).toInt = 0 := by decide
  have k1 : (1 : Int32).toInt = 1 := by decide
  have J55 : ∀ (n : Nat) (τ : Sg) (y4 : Int32), Inv τ → Fr MS_X12_row AS_X12_row σ τ → IV a1 0 7 → IV a2 0 2 → IV a3 0 40 → IV y4 0 40 → (40 - y4.toInt).toNat < n → MW p l e { frames := 2, cells := 0, slots := 0, locals := 45 } s m args below meth c (MQ below (QP G (PI fun r τ => Inv τ ∧ Fr MS_X12_row AS_X12_row σ τ ∧ IV r (-2147483648) 2147483647 ∧ (((a1.toInt < 0 ∨ 7 < a1.toInt ∨ a2.toInt < 0 ∨ 2 < a2.toInt ∨ 40 < a3.toInt) ∧ r.toInt = -1000001) ∨ ((0 ≤ a1.toInt ∧ a1.toInt ≤ 7 ∧ 0 ≤ a2.toInt ∧ a2.toInt ≤ 2 ∧ a3.toInt < 0) ∧ r.toInt = -1000014) ∨ ((0 ≤ a1.toInt ∧ a1.toInt ≤ 7 ∧ 0 ≤ a2.toInt ∧ a2.toInt ≤ 2 ∧ 0 ≤ a3.toInt ∧ a3.toInt ≤ 40) ∧ r.toInt = a3.toInt)))) args s 0 0 (aG G)) 5 G 0 0 55 [some (.ref (G.1 22 0)), some (.int a1), none, some (.int a3), some (.int y4)] [] τ := by
    intro n
    induction n with
    | zero => intro τ y4 iτ fτ b_a1 b_a2 b_a3 b_y4 hm; exact absurd hm (Nat.not_lt_zero _)
    | succ n ih55 =>
      intro τ y4 iτ fτ b_a1 b_a2 b_a3 b_y4 hm55
      refine m_iload C dX12_row_55 rfl ?_
      refine m_iload_n C dX12_row_57 rfl rfl ?_
      refine m_icmp_ge (tgt := 80) C dX12_row_58 (by decide) (fun c1 => ?_) (fun c1 => ?_)
      · have f2 : a3.toInt ≤ y4.toInt := by
          have q : _ := c1
          simp only [ti_nle, ti_nlt, ti_le, ti_lt, ti_eq, ti_ne, Classical.not_not] at q
          omega
        refine m_aload_n C dX12_row_80 rfl rfl ?_
        refine m_iload_n C dX12_row_81 rfl rfl ?_
        refine m_callV (n := 1) (ci := 11) (st := []) C (c_X12_fine l G τ (a3) iτ ) (by decide) (by decide) rfl rfl rfl q4_201 q4_198 q4_200 q0_27 q1_7 (by decide +kernel) rfl (by decide) (by decide) rfl (Nat.le_of_ble_eq_true rfl) dX12_row_82 ?_
        rintro _ τ3 ⟨x6, rfl, i4, f5, b7, h9⟩
        have g8 : Fr MS_X12_row AS_X12_row σ τ3 := Fr.call (fτ) f5 (by decide)
        show MW p l e _ s m args below meth c _ 5 G 0 0 85 [some (.ref (G.1 22 0)), some (.int a1), none, some (.int a3), some (.int y4)] [.int x6] τ3
        exact m_iret C hr hlk (by decide) (by decide) dX12_row_85 ⟨_, rfl, i4, g8, b7, (by omega)⟩
      · have f10 : y4.toInt < a3.toInt := by
          have q : _ := c1
          simp only [ti_nle, ti_nlt, ti_le, ti_lt, ti_eq, ti_ne, Classical.not_not] at q
          omega
        have b11 : IV y4 0 39 := ⟨by have q1 := b_y4; have q2 := b_a3; omega, by have q1 := b_y4; have q2 := b_a3; omega⟩
        have b12 : IV a3 1 40 := ⟨by have q1 := b_y4; have q2 := b_a3; omega, by have q1 := b_y4; have q2 := b_a3; omega⟩
        refine m_aload_n C dX12_row_61 rfl rfl ?_
        refine g_22_2 C q4_118 dX12_row_62 ?_
        refine m_bipush (v := 40) C dX12_row_65 (by decide) ?_
        refine m_iload_n C dX12_row_67 rfl rfl ?_
        refine m_imul C dX12_row_68 ?_
        refine m_topi (fun x13 ex13 => ?_)
        have tx13 : x13.toInt = 40 * a1.toInt := by rw [ex13, ti_mulv kc_40 b_a1 (by decide), kt_40]
        have b14 : IV x13 0 280 := by rw [ex13]; exact iv_mul kc_40 b_a1 (by decide)
        refine m_iload C dX12_row_69 rfl ?_
        refine m_iadd C dX12_row_71 ?_
        refine m_topi (fun x15 ex15 => ?_)
        have tx15 : x15.toInt = x13.toInt + y4.toInt := by rw [ex15, ti_addv b14 b11 (by decide)]
        have b16 : IV x15 0 319 := by rw [ex15]; exact iv_add b14 b11 (by decide)
        refine m_iconst (v := 0) C dX12_row_72 (by decide) ?_
        refine as_25 C b16 (by decide) rfl dX12_row_73 ?_
        refine m_tops (fun τ17 eτ17 => ?_)
        have i18 : Inv τ17 := eτ17 ▸ Inv.putF iτ (by decide) rfl
        have f19 : Fr MS_X12_row AS_X12_row σ τ17 := eτ17 ▸ Fr.put (fτ) (Or.inr (by decide))
        obtain ⟨x20, ex20⟩ : ∃ y : Int32, y = y4 + 1 := ⟨_, rfl⟩
        have tx20 : x20.toInt = y4.toInt + 1 := by rw [ex20, ti_addv b11 kc_1 (by decide), kt_1]
        have b21 : IV x20 1 40 := by rw [ex20]; exact iv_add b11 kc_1 (by decide)
        refine m_iinc (v := x20) (L1 := [some (.ref (G.1 22 0)), some (.int a1), none, some (.int a3), some (.int x20)]) C dX12_row_74 rfl (by rw [ex20]; rfl) (by decide) rfl rfl ?_
        refine m_goto (tgt := 55) C dX12_row_77 (by decide) ?_
        exact ih55 τ17 x20 i18 f19 b_a1 b_a2 (iv_wk b12 (by decide)) (iv_wk b21 (by decide)) (by have q := hm55; omega)
  refine m_iload_n C dX12_row_0 rfl rfl ?_
  refine m_callS (n := 1) (st := []) C (c_X12_isRow l G σ (a1) hI ) q4_186 q4_184 q4_185 q1_7 (by decide +kernel) rfl (by decide) (by decide) rfl (Nat.le_of_ble_eq_true rfl) dX12_row_1 ?_
  rintro _ τ22 ⟨x25, rfl, i23, f24, b26, h28⟩
  have g27 : Fr MS_X12_row AS_X12_row σ τ22 := Fr.call (Fr.rf) f24 (by decide)
  show MW p l e _ s m args below meth c _ 5 G 0 0 4 [some (.ref (G.1 22 0)), some (.int a1), some (.int a2), some (.int a3), none] [.int x25] τ22
  refine m_if_eq (tgt := 25) C dX12_row_4 (by decide) (fun c29 => ?_) (fun c29 => ?_)
  · have f30 : x25.toInt = 0 := by
      have q : _ := c29
      simp only [ti_nle, ti_nlt, ti_le, ti_lt, ti_eq, ti_ne, Classical.not_not, kt_0] at q
      omega
    have b31 : IV x25 0 0 := ⟨by have q1 := b26; have q2 := kc_0; omega, by have q1 := b26; have q2 := kc_0; omega⟩
    refine m_ldc (v := (-1000001)) C dX12_row_25 q4_192 ?_
    exact m_iret C hr hlk (by decide) (by decide) dX12_row_27 ⟨_, rfl, i23, g27, (iv_wk kc_m1000001 (by decide)), (by have q := kt_m1000001; omega)⟩
  · have f32 : x25.toInt ≠ 0 := by
      have q : _ := c29
      simp only [ti_nle, ti_nlt, ti_le, ti_lt, ti_eq, ti_ne, Classical.not_not, kt_0] at q
      omega
    have b33 : IV x25 1 1 := ⟨by have q1 := b26; have q2 := kc_0; omega, by have q1 := b26; have q2 := kc_0; omega⟩
    have b34 : IV a1 0 7 := ⟨by have q1 := (iv_any a1); omega, by have q1 := (iv_any a1); omega⟩
    refine m_iload_n C dX12_row_7 rfl rfl ?_
    refine m_i2l C dX12_row_8 ?_
    refine m_lconst (v := 0) C dX12_row_9 (by decide) ?_
    refine m_ldc2 (v := 2) C dX12_row_10 q4_191 ?_
    refine m_callS (n := 3) (st := []) C (c_X12_in l G τ22 ((a2 : Int32).toInt64) (0) (2) i23 ) q4_190 q4_188 q4_189 q1_7 (by decide +kernel) rfl (by decide) (by decide) rfl (Nat.le_of_ble_eq_true rfl) dX12_row_13 ?_
    rintro _ τ35 ⟨x38, rfl, i36, f37, b39, h41⟩
    have g40 : Fr MS_X12_row AS_X12_row σ τ35 := Fr.call (g27) f37 (by decide)
    have f42 := tl_i a2
    have f43 := kl_0
    have f44 := kl_2
    show MW p l e _ s m args below meth c _ 5 G 0 0 16 [some (.ref (G.1 22 0)), some (.int a1), some (.int a2), some (.int a3), none] [.int x38] τ35
    refine m_if_eq (tgt := 25) C dX12_row_16 (by decide) (fun c45 => ?_) (fun c45 => ?_)
    · have f46 : x38.toInt = 0 := by
        have q : _ := c45
        simp only [ti_nle, ti_nlt, ti_le, ti_lt, ti_eq, ti_ne, Classical.not_not, kt_0] at q
        omega
      have b47 : IV x38 0 0 := ⟨by have q1 := b39; have q2 := kc_0; omega, by have q1 := b39; have q2 := kc_0; omega⟩
      refine m_ldc (v := (-1000001)) C dX12_row_25 q4_192 ?_
      exact m_iret C hr hlk (by decide) (by decide) dX12_row_27 ⟨_, rfl, i36, g40, (iv_wk kc_m1000001 (by decide)), (by have q := kt_m1000001; omega)⟩
    · have f48 : x38.toInt ≠ 0 := by
        have q : _ := c45
        simp only [ti_nle, ti_nlt, ti_le, ti_lt, ti_eq, ti_ne, Classical.not_not, kt_0] at q
        omega
      have b49 : IV x38 1 1 := ⟨by have q1 := b39; have q2 := kc_0; omega, by have q1 := b39; have q2 := kc_0; omega⟩
      have b50 : IV a2 0 2 := ⟨by have q1 := (iv_any a2); omega, by have q1 := (iv_any a2); omega⟩
      refine m_iload_n C dX12_row_19 rfl rfl ?_
      refine m_bipush (v := 40) C dX12_row_20 (by decide) ?_
      refine m_icmp_le (tgt := 28) C dX12_row_22 (by decide) (fun c51 => ?_) (fun c51 => ?_)
      · have f52 : a3.toInt ≤ 40 := by
          have q : _ := c51
          simp only [ti_nle, ti_nlt, ti_le, ti_lt, ti_eq, ti_ne, Classical.not_not, kt_40] at q
          omega
        have b53 : IV a3 (-2147483648) 40 := ⟨by have q1 := (iv_any a3); have q2 := kc_40; omega, by have q1 := (iv_any a3); have q2 := kc_40; omega⟩
        refine m_iload_n C dX12_row_28 rfl rfl ?_
        refine m_if_ge (tgt := 38) C dX12_row_29 (by decide) (fun c54 => ?_) (fun c54 => ?_)
        · have f55 : 0 ≤ a3.toInt := by
            have q : _ := c54
            simp only [ti_nle, ti_nlt, ti_le, ti_lt, ti_eq, ti_ne, Classical.not_not, kt_0] at q
            omega
          have b56 : IV a3 0 40 := ⟨by have q1 := kc_0; have q2 := b53; omega, by have q1 := kc_0; have q2 := b53; omega⟩
          refine m_aload_n C dX12_row_38 rfl rfl ?_
          refine g_22_3 C q4_119 dX12_row_39 ?_
          refine m_iload_n C dX12_row_42 rfl rfl ?_
          refine m_iload_n C dX12_row_43 rfl rfl ?_
          refine as_26 C b34 (by decide) rfl dX12_row_44 ?_
          refine m_tops (fun τ57 eτ57 => ?_)
          have i58 : Inv τ57 := eτ57 ▸ Inv.putF i36 (by decide) rfl
          have f59 : Fr MS_X12_row AS_X12_row σ τ57 := eτ57 ▸ Fr.put (g40) (Or.inr (by decide))
          refine m_aload_n C dX12_row_45 rfl rfl ?_
          refine g_22_4 C q4_120 dX12_row_46 ?_
          refine m_iload_n C dX12_row_49 rfl rfl ?_
          refine m_iload_n C dX12_row_50 rfl rfl ?_
          refine as_27 C b34 (by decide) rfl dX12_row_51 ?_
          refine m_tops (fun τ60 eτ60 => ?_)
          have i61 : Inv τ60 := eτ60 ▸ Inv.put i58 (by decide) b56
          have f62 : Fr MS_X12_row AS_X12_row σ τ60 := eτ60 ▸ Fr.put (f59) (Or.inr (by decide))
          refine m_iconst (v := 0) C dX12_row_52 (by decide) ?_
          refine m_istore (L1 := [some (.ref (G.1 22 0)), some (.int a1), some (.int a2), some (.int a3), some (.int 0)]) C dX12_row_53 (by decide) rfl rfl ?_
          refine m_sub (L1 := [some (.ref (G.1 22 0)), some (.int a1), none, some (.int a3), some (.int 0)]) ⟨rfl, ⟨rfl, ⟨rfl, ⟨rfl, trivial⟩⟩⟩⟩ ?_
          exact J55 ((40 - (0 : Int32).toInt).toNat + 1) τ60 0 i61 f62 b34 b50 b56 (iv_wk kc_0 (by decide)) (Nat.lt_succ_self _)
        · have f63 : a3.toInt < 0 := by
            have q : _ := c54
            simp only [ti_nle, ti_nlt, ti_le, ti_lt, ti_eq, ti_ne, Classical.not_not, kt_0] at q
            omega
          have b64 : IV a3 (-2147483648) (-1) := ⟨by have q1 := b53; have q2 := kc_0; omega, by have q1 := b53; have q2 := kc_0; omega⟩
          refine m_aload_n C dX12_row_32 rfl rfl ?_
          refine m_iconst (v := 4) C dX12_row_33 (by decide) ?_
          refine m_callV (n := 1) (ci := 11) (st := []) C (c_X12_met l G τ35 (4) i36 (iv_wk kc_4 (by decide))) (by decide) (by decide) rfl rfl rfl q4_196 q4_193 q4_195 q0_26 q1_7 (by decide +kernel) rfl (by decide) (by decide) rfl (Nat.le_of_ble_eq_true rfl) dX12_row_34 ?_
          rintro _ τ65 ⟨x68, rfl, i66, f67, b69, h71⟩
          have g70 : Fr MS_X12_row AS_X12_row σ τ65 := Fr.call (g40) f67 (by decide)
          have q72 := kt_4
          show MW p l e _ s m args below meth c _ 5 G 0 0 37 [some (.ref (G.1 22 0)), some (.int a1), some (.int a2), some (.int a3), none] [.int x68] τ65
          exact m_iret C hr hlk (by decide) (by decide) dX12_row_37 ⟨_, rfl, i66, g70, (iv_wk b69 (by decide)), (by omega)⟩
      · have f73 : 40 < a3.toInt := by
          have q : _ := c51
          simp only [ti_nle, ti_nlt, ti_le, ti_lt, ti_eq, ti_ne, Classical.not_not, kt_40] at q
          omega
        have b74 : IV a3 41 2147483647 := ⟨by have q1 := kc_40; have q2 := (iv_any a3); omega, by have q1 := kc_40; have q2 := (iv_any a3); omega⟩
        refine m_ldc (v := (-1000001)) C dX12_row_25 q4_192 ?_
        exact m_iret C hr hlk (by decide) (by decide) dX12_row_27 ⟨_, rfl, i36, g40, (iv_wk kc_m1000001 (by decide)), (by have q := kt_m1000001; omega)⟩

abbrev MS_X12_set : List (Nat × Nat) := [(22, 8)]
abbrev AS_X12_set : List Nat := [25]
set_option maxHeartbeats 4000000 in
set_option maxRecDepth 100000 in
theorem c_X12_set (l : Launch) (G : Gt) (σ : Sg) (a1 : Int32) (a2 : Int32) (a3 : Int32) (hI : Inv σ) : Mc l G yX12_set cX12_set 4 (some .int) 2 45 0 0 [.ref (G.1 22 0), .int a1, .int a2, .int a3] σ (PI fun r τ => Inv τ ∧ Fr MS_X12_set AS_X12_set σ τ ∧ IV r (-2147483648) 2147483647) := by
  refine Mc.of (L0 := [some (.ref (G.1 22 0)), some (.int a1), some (.int a2), some (.int a3)]) (by decide) (Nat.le_of_ble_eq_true rfl) rfl ?_
  intro p e s m args below meth c C hr hlk
  have C : Cx p s m args c cX12_set 4 "LeanTowerModel" := C
  have k0 : (0 : Int32).toInt = 0 := by decide
  have k1 : (1 : Int32).toInt = 1 := by decide
  refine m_iload_n C dX12_set_0 rfl rfl ?_
  refine m_callS (n := 1) (st := []) C (c_X12_isRow l G σ (a1) hI ) q4_186 q4_184 q4_185 q1_7 (by decide +kernel) rfl (by decide) (by decide) rfl (Nat.le_of_ble_eq_true rfl) dX12_set_1 ?_
  rintro _ τ1 ⟨x4, rfl, i2, f3, b5, h7⟩
  have g6 : Fr MS_X12_set AS_X12_set σ τ1 := Fr.call (Fr.rf) f3 (by decide)
  show MW p l e _ s m args below meth c _ 4 G 0 0 4 [some (.ref (G.1 22 0)), some (.int a1), some (.int a2), some (.int a3)] [.int x4] τ1
  refine m_if_ne (tgt := 10) C dX12_set_4 (by decide) (fun c8 => ?_) (fun c8 => ?_)
  · have f9 : x4.toInt ≠ 0 := by
      have q : _ := c8
      simp only [ti_nle, ti_nlt, ti_le, ti_lt, ti_eq, ti_ne, Classical.not_not, kt_0] at q
      omega
    have b10 : IV x4 1 1 := ⟨by have q1 := b5; have q2 := kc_0; omega, by have q1 := b5; have q2 := kc_0; omega⟩
    have b11 : IV a1 0 7 := ⟨by have q1 := (iv_any a1); omega, by have q1 := (iv_any a1); omega⟩
    refine m_aload_n C dX12_set_10 rfl rfl ?_
    refine g_22_3 C q4_119 dX12_set_11 ?_
    refine m_iload_n C dX12_set_14 rfl rfl ?_
    refine al_26 C b11 (by decide) rfl dX12_set_15 ?_
    refine m_topi (fun x12 ex12 => ?_)
    refine m_if_ge (tgt := 25) C dX12_set_16 (by decide) (fun c13 => ?_) (fun c13 => ?_)
    · have f14 : 0 ≤ x12.toInt := by
        have q : _ := c13
        simp only [ti_nle, ti_nlt, ti_le, ti_lt, ti_eq, ti_ne, Classical.not_not, kt_0] at q
        omega
      have b15 : IV x12 0 2147483647 := ⟨by have q1 := kc_0; have q2 := (iv_any x12); omega, by have q1 := kc_0; have q2 := (iv_any x12); omega⟩
      refine m_iload_n C dX12_set_25 rfl rfl ?_
      refine m_i2l C dX12_set_26 ?_
      refine m_lconst (v := 0) C dX12_set_27 (by decide) ?_
      refine m_aload_n C dX12_set_28 rfl rfl ?_
      refine g_22_4 C q4_120 dX12_set_29 ?_
      refine m_iload_n C dX12_set_32 rfl rfl ?_
      refine al_27 C b11 (by decide) rfl dX12_set_33 ?_
      refine m_topi (fun x16 ex16 => ?_)
      have b17 : IV x16 0 40 := by rw [ex16]; exact i2.1 27 0 _
      refine m_iconst (v := 1) C dX12_set_34 (by decide) ?_
      refine m_isub C dX12_set_35 ?_
      refine m_topi (fun x18 ex18 => ?_)
      have tx18 : x18.toInt = x16.toInt - 1 := by rw [ex18, ti_subv b17 kc_1 (by decide), kt_1]
      have b19 : IV x18 (-1) 39 := by rw [ex18]; exact iv_sub b17 kc_1 (by decide)
      refine m_i2l C dX12_set_36 ?_
      refine m_callS (n := 3) (st := []) C (c_X12_in l G τ1 ((a2 : Int32).toInt64) (0) ((x18 : Int32).toInt64) i2 ) q4_190 q4_188 q4_189 q1_7 (by decide +kernel) rfl (by decide) (by decide) rfl (Nat.le_of_ble_eq_true rfl) dX12_set_37 ?_
      rintro _ τ20 ⟨x23, rfl, i21, f22, b24, h26⟩
      have g25 : Fr MS_X12_set AS_X12_set σ τ20 := Fr.call (g6) f22 (by decide)
      have f27 := tl_i a2
      have f28 := kl_0
      have f29 := tl_i x18
      have q30 := b19
      show MW p l e _ s m args below meth c _ 4 G 0 0 40 [some (.ref (G.1 22 0)), some (.int a1), some (.int a2), some (.int a3)] [.int x23] τ20
      refine m_if_ne (tgt := 49) C dX12_set_40 (by decide) (fun c31 => ?_) (fun c31 => ?_)
      · have f32 : x23.toInt ≠ 0 := by
          have q : _ := c31
          simp only [ti_nle, ti_nlt, ti_le, ti_lt, ti_eq, ti_ne, Classical.not_not, kt_0] at q
          omega
        have b33 : IV x23 1 1 := ⟨by have q1 := b24; have q2 := kc_0; omega, by have q1 := b24; have q2 := kc_0; omega⟩
        have b34 : IV a2 0 39 := ⟨by have q1 := (iv_any a2); omega, by have q1 := (iv_any a2); omega⟩
        refine m_aload_n C dX12_set_49 rfl rfl ?_
        refine g_22_2 C q4_118 dX12_set_50 ?_
        refine m_bipush (v := 40) C dX12_set_53 (by decide) ?_
        refine m_iload_n C dX12_set_55 rfl rfl ?_
        refine m_imul C dX12_set_56 ?_
        refine m_topi (fun x35 ex35 => ?_)
        have tx35 : x35.toInt = 40 * a1.toInt := by rw [ex35, ti_mulv kc_40 b11 (by decide), kt_40]
        have b36 : IV x35 0 280 := by rw [ex35]; exact iv_mul kc_40 b11 (by decide)
        refine m_iload_n C dX12_set_57 rfl rfl ?_
        refine m_iadd C dX12_set_58 ?_
        refine m_topi (fun x37 ex37 => ?_)
        have tx37 : x37.toInt = x35.toInt + a2.toInt := by rw [ex37, ti_addv b36 b34 (by decide)]
        have b38 : IV x37 0 319 := by rw [ex37]; exact iv_add b36 b34 (by decide)
        refine m_aload_n C dX12_set_59 rfl rfl ?_
        refine g_22_3 C q4_119 dX12_set_60 ?_
        refine m_iload_n C dX12_set_63 rfl rfl ?_
        refine al_26 C b11 (by decide) rfl dX12_set_64 ?_
        refine m_eqs (w := x12) (show gV τ20 26 0 (a1.toInt.toNat) = x12 from (f22.1 26 0 ((a1.toInt.toNat)) (by simp) (by decide)).trans ex12.symm) ?_
        refine m_iload_n C dX12_set_65 rfl rfl ?_
        refine m_callS (n := 2) (st := [.int x37, .ref (G.1 25 0)]) C (c_X12_cut l G τ20 (x12) (a3) i21 ) q4_208 q4_206 q4_207 q1_7 (by decide +kernel) rfl (by decide) (by decide) rfl (Nat.le_of_ble_eq_true rfl) dX12_set_66 ?_
        rintro _ τ39 ⟨x42, rfl, i40, f41, b43⟩
        have g44 : Fr MS_X12_set AS_X12_set σ τ39 := Fr.call (g25) f41 (by decide)
        show MW p l e _ s m args below meth c _ 4 G 0 0 69 [some (.ref (G.1 22 0)), some (.int a1), some (.int a2), some (.int a3)] [.int x42, .int x37, .ref (G.1 25 0)] τ39
        refine as_25 C b38 (by decide) rfl dX12_set_69 ?_
        refine m_tops (fun τ46 eτ46 => ?_)
        have i47 : Inv τ46 := eτ46 ▸ Inv.putF i40 (by decide) rfl
        have f48 : Fr MS_X12_set AS_X12_set σ τ46 := eτ46 ▸ Fr.put (g44) (Or.inr (by decide))
        refine m_aload_n C dX12_set_70 rfl rfl ?_
        refine m_aload_n C dX12_set_71 rfl rfl ?_
        refine g_22_2 C q4_118 dX12_set_72 ?_
        refine m_bipush (v := 40) C dX12_set_75 (by decide) ?_
        refine m_iload_n C dX12_set_77 rfl rfl ?_
        refine m_imul C dX12_set_78 ?_
        refine m_topi (fun x49 ex49 => ?_)
        have tx49 : x49.toInt = 40 * a1.toInt := by rw [ex49, ti_mulv kc_40 b11 (by decide), kt_40]
        have b50 : IV x49 0 280 := by rw [ex49]; exact iv_mul kc_40 b11 (by decide)
        refine m_iload_n C dX12_set_79 rfl rfl ?_
        refine m_iadd C dX12_set_80 ?_
        refine m_topi (fun x51 ex51 => ?_)
        have tx51 : x51.toInt = x49.toInt + a2.toInt := by rw [ex51, ti_addv b50 b34 (by decide)]
        have b52 : IV x51 0 319 := by rw [ex51]; exact iv_add b50 b34 (by decide)
        refine al_25 C b52 (by decide) rfl dX12_set_81 ?_
        refine m_topi (fun x53 ex53 => ?_)
        refine m_callV (n := 1) (ci := 11) (st := []) C (c_X12_fine l G τ46 (x53) i47 ) (by decide) (by decide) rfl rfl rfl q4_201 q4_198 q4_200 q0_27 q1_7 (by decide +kernel) rfl (by decide) (by decide) rfl (Nat.le_of_ble_eq_true rfl) dX12_set_82 ?_
        rintro _ τ54 ⟨x57, rfl, i55, f56, b58, h60⟩
        have g59 : Fr MS_X12_set AS_X12_set σ τ54 := Fr.call (f48) f56 (by decide)
        show MW p l e _ s m args below meth c _ 4 G 0 0 85 [some (.ref (G.1 22 0)), some (.int a1), some (.int a2), some (.int a3)] [.int x57] τ54
        exact m_iret C hr hlk (by decide) (by decide) dX12_set_85 ⟨_, rfl, i55, g59, b58⟩
      · have f61 : x23.toInt = 0 := by
          have q : _ := c31
          simp only [ti_nle, ti_nlt, ti_le, ti_lt, ti_eq, ti_ne, Classical.not_not, kt_0] at q
          omega
        have b62 : IV x23 0 0 := ⟨by have q1 := b24; have q2 := kc_0; omega, by have q1 := b24; have q2 := kc_0; omega⟩
        refine m_aload_n C dX12_set_43 rfl rfl ?_
        refine m_iconst (v := 2) C dX12_set_44 (by decide) ?_
        refine m_callV (n := 1) (ci := 11) (st := []) C (c_X12_met l G τ20 (2) i21 (iv_wk kc_2 (by decide))) (by decide) (by decide) rfl rfl rfl q4_196 q4_193 q4_195 q0_26 q1_7 (by decide +kernel) rfl (by decide) (by decide) rfl (Nat.le_of_ble_eq_true rfl) dX12_set_45 ?_
        rintro _ τ63 ⟨x66, rfl, i64, f65, b67, h69⟩
        have g68 : Fr MS_X12_set AS_X12_set σ τ63 := Fr.call (g25) f65 (by decide)
        have q70 := kt_2
        show MW p l e _ s m args below meth c _ 4 G 0 0 48 [some (.ref (G.1 22 0)), some (.int a1), some (.int a2), some (.int a3)] [.int x66] τ63
        exact m_iret C hr hlk (by decide) (by decide) dX12_set_48 ⟨_, rfl, i64, g68, (iv_wk b67 (by decide))⟩
    · have f71 : x12.toInt < 0 := by
        have q : _ := c13
        simp only [ti_nle, ti_nlt, ti_le, ti_lt, ti_eq, ti_ne, Classical.not_not, kt_0] at q
        omega
      have b72 : IV x12 (-2147483648) (-1) := ⟨by have q1 := (iv_any x12); have q2 := kc_0; omega, by have q1 := (iv_any x12); have q2 := kc_0; omega⟩
      refine m_aload_n C dX12_set_19 rfl rfl ?_
      refine m_iconst (v := 1) C dX12_set_20 (by decide) ?_
      refine m_callV (n := 1) (ci := 11) (st := []) C (c_X12_met l G τ1 (1) i2 (iv_wk kc_1 (by decide))) (by decide) (by decide) rfl rfl rfl q4_196 q4_193 q4_195 q0_26 q1_7 (by decide +kernel) rfl (by decide) (by decide) rfl (Nat.le_of_ble_eq_true rfl) dX12_set_21 ?_
      rintro _ τ73 ⟨x76, rfl, i74, f75, b77, h79⟩
      have g78 : Fr MS_X12_set AS_X12_set σ τ73 := Fr.call (g6) f75 (by decide)
      have q80 := kt_1
      show MW p l e _ s m args below meth c _ 4 G 0 0 24 [some (.ref (G.1 22 0)), some (.int a1), some (.int a2), some (.int a3)] [.int x76] τ73
      exact m_iret C hr hlk (by decide) (by decide) dX12_set_24 ⟨_, rfl, i74, g78, (iv_wk b77 (by decide))⟩
  · have f81 : x4.toInt = 0 := by
      have q : _ := c8
      simp only [ti_nle, ti_nlt, ti_le, ti_lt, ti_eq, ti_ne, Classical.not_not, kt_0] at q
      omega
    have b82 : IV x4 0 0 := ⟨by have q1 := b5; have q2 := kc_0; omega, by have q1 := b5; have q2 := kc_0; omega⟩
    refine m_ldc (v := (-1000001)) C dX12_set_7 q4_192 ?_
    exact m_iret C hr hlk (by decide) (by decide) dX12_set_9 ⟨_, rfl, i2, g6, (iv_wk kc_m1000001 (by decide))⟩

abbrev MS_X12_drop : List (Nat × Nat) := [(22, 8)]
abbrev AS_X12_drop : List Nat := [26]
set_option maxHeartbeats 4000000 in
set_option maxRecDepth 100000 in
theorem c_X12_drop (l : Launch) (G : Gt) (σ : Sg) (a1 : Int32) (hI : Inv σ) : Mc l G yX12_drop cX12_drop 2 (some .int) 2 45 0 0 [.ref (G.1 22 0), .int a1] σ (PI fun r τ => Inv τ ∧ Fr MS_X12_drop AS_X12_drop σ τ ∧ IV r (-2147483648) 2147483647) := by
  refine Mc.of (L0 := [some (.ref (G.1 22 0)), some (.int a1)]) (by decide) (Nat.le_of_ble_eq_true rfl) rfl ?_
  intro p e s m args below meth c C hr hlk
  have C : Cx p s m args c cX12_drop 2 "LeanTowerModel" := C
  have k0 : (0 : Int32).toInt = 0 := by decide
  have k1 : (1 : Int32).toInt = 1 := by decide
  refine m_iload_n C dX12_drop_0 rfl rfl ?_
  refine m_callS (n := 1) (st := []) C (c_X12_isRow l G σ (a1) hI ) q4_186 q4_184 q4_185 q1_7 (by decide +kernel) rfl (by decide) (by decide) rfl (Nat.le_of_ble_eq_true rfl) dX12_drop_1 ?_
  rintro _ τ1 ⟨x4, rfl, i2, f3, b5, h7⟩
  have g6 : Fr MS_X12_drop AS_X12_drop σ τ1 := Fr.call (Fr.rf) f3 (by decide)
  show MW p l e _ s m args below meth c _ 2 G 0 0 4 [some (.ref (G.1 22 0)), some (.int a1)] [.int x4] τ1
  refine m_if_ne (tgt := 10) C dX12_drop_4 (by decide) (fun c8 => ?_) (fun c8 => ?_)
  · have f9 : x4.toInt ≠ 0 := by
      have q : _ := c8
      simp only [ti_nle, ti_nlt, ti_le, ti_lt, ti_eq, ti_ne, Classical.not_not, kt_0] at q
      omega
    have b10 : IV x4 1 1 := ⟨by have q1 := b5; have q2 := kc_0; omega, by have q1 := b5; have q2 := kc_0; omega⟩
    have b11 : IV a1 0 7 := ⟨by have q1 := (iv_any a1); omega, by have q1 := (iv_any a1); omega⟩
    refine m_aload_n C dX12_drop_10 rfl rfl ?_
    refine g_22_3 C q4_119 dX12_drop_11 ?_
    refine m_iload_n C dX12_drop_14 rfl rfl ?_
    refine al_26 C b11 (by decide) rfl dX12_drop_15 ?_
    refine m_topi (fun x12 ex12 => ?_)
    refine m_if_ge (tgt := 25) C dX12_drop_16 (by decide) (fun c13 => ?_) (fun c13 => ?_)
    · have f14 : 0 ≤ x12.toInt := by
        have q : _ := c13
        simp only [ti_nle, ti_nlt, ti_le, ti_lt, ti_eq, ti_ne, Classical.not_not, kt_0] at q
        omega
      have b15 : IV x12 0 2147483647 := ⟨by have q1 := kc_0; have q2 := (iv_any x12); omega, by have q1 := kc_0; have q2 := (iv_any x12); omega⟩
      refine m_aload_n C dX12_drop_25 rfl rfl ?_
      refine g_22_3 C q4_119 dX12_drop_26 ?_
      refine m_iload_n C dX12_drop_29 rfl rfl ?_
      refine m_iconst (v := (-1)) C dX12_drop_30 (by decide) ?_
      refine as_26 C b11 (by decide) rfl dX12_drop_31 ?_
      refine m_tops (fun τ16 eτ16 => ?_)
      have i17 : Inv τ16 := eτ16 ▸ Inv.putF i2 (by decide) rfl
      have f18 : Fr MS_X12_drop AS_X12_drop σ τ16 := eτ16 ▸ Fr.put (g6) (Or.inr (by decide))
      refine m_aload_n C dX12_drop_32 rfl rfl ?_
      refine m_aload_n C dX12_drop_33 rfl rfl ?_
      refine g_22_4 C q4_120 dX12_drop_34 ?_
      refine m_iload_n C dX12_drop_37 rfl rfl ?_
      refine al_27 C b11 (by decide) rfl dX12_drop_38 ?_
      refine m_topi (fun x19 ex19 => ?_)
      have b20 : IV x19 0 40 := by rw [ex19]; exact i17.1 27 0 _
      refine m_callV (n := 1) (ci := 11) (st := []) C (c_X12_fine l G τ16 (x19) i17 ) (by decide) (by decide) rfl rfl rfl q4_201 q4_198 q4_200 q0_27 q1_7 (by decide +kernel) rfl (by decide) (by decide) rfl (Nat.le_of_ble_eq_true rfl) dX12_drop_39 ?_
      rintro _ τ21 ⟨x24, rfl, i22, f23, b25, h27⟩
      have g26 : Fr MS_X12_drop AS_X12_drop σ τ21 := Fr.call (f18) f23 (by decide)
      show MW p l e _ s m args below meth c _ 2 G 0 0 42 [some (.ref (G.1 22 0)), some (.int a1)] [.int x24] τ21
      exact m_iret C hr hlk (by decide) (by decide) dX12_drop_42 ⟨_, rfl, i22, g26, b25⟩
    · have f28 : x12.toInt < 0 := by
        have q : _ := c13
        simp only [ti_nle, ti_nlt, ti_le, ti_lt, ti_eq, ti_ne, Classical.not_not, kt_0] at q
        omega
      have b29 : IV x12 (-2147483648) (-1) := ⟨by have q1 := (iv_any x12); have q2 := kc_0; omega, by have q1 := (iv_any x12); have q2 := kc_0; omega⟩
      refine m_aload_n C dX12_drop_19 rfl rfl ?_
      refine m_iconst (v := 1) C dX12_drop_20 (by decide) ?_
      refine m_callV (n := 1) (ci := 11) (st := []) C (c_X12_met l G τ1 (1) i2 (iv_wk kc_1 (by decide))) (by decide) (by decide) rfl rfl rfl q4_196 q4_193 q4_195 q0_26 q1_7 (by decide +kernel) rfl (by decide) (by decide) rfl (Nat.le_of_ble_eq_true rfl) dX12_drop_21 ?_
      rintro _ τ30 ⟨x33, rfl, i31, f32, b34, h36⟩
      have g35 : Fr MS_X12_drop AS_X12_drop σ τ30 := Fr.call (g6) f32 (by decide)
      have q37 := kt_1
      show MW p l e _ s m args below meth c _ 2 G 0 0 24 [some (.ref (G.1 22 0)), some (.int a1)] [.int x33] τ30
      exact m_iret C hr hlk (by decide) (by decide) dX12_drop_24 ⟨_, rfl, i31, g35, (iv_wk b34 (by decide))⟩
  · have f38 : x4.toInt = 0 := by
      have q : _ := c8
      simp only [ti_nle, ti_nlt, ti_le, ti_lt, ti_eq, ti_ne, Classical.not_not, kt_0] at q
      omega
    have b39 : IV x4 0 0 := ⟨by have q1 := b5; have q2 := kc_0; omega, by have q1 := b5; have q2 := kc_0; omega⟩
    refine m_ldc (v := (-1000001)) C dX12_drop_7 q4_192 ?_
    exact m_iret C hr hlk (by decide) (by decide) dX12_drop_9 ⟨_, rfl, i2, g6, (iv_wk kc_m1000001 (by decide))⟩

abbrev MS_X12_fault : List (Nat × Nat) := []
abbrev AS_X12_fault : List Nat := []
set_option maxHeartbeats 4000000 in
set_option maxRecDepth 100000 in
theorem c_X12_fault (l : Launch) (G : Gt) (σ : Sg) (hI : Inv σ) : Mc l G yX12_fault cX12_fault 1 (some .int) 0 0 0 0 [.ref (G.1 22 0)] σ (PI fun r τ => Inv τ ∧ Fr MS_X12_fault AS_X12_fault σ τ ∧ IV r (-2147483648) 2147483647) := by
  refine Mc.of (L0 := [some (.ref (G.1 22 0))]) (by decide) (Nat.le_of_ble_eq_true rfl) rfl ?_
  intro p e s m args below meth c C hr hlk
  have C : Cx p s m args c cX12_fault 1 "LeanTowerModel" := C
  have k0 : (0 : Int32).toInt = 0 := by decide
  have k1 : (1 : Int32).toInt = 1 := by decide
  refine m_aload_n C dX12_fault_0 rfl rfl ?_
  refine g_22_7 C q4_123 dX12_fault_1 ?_
  refine m_topi (fun x1 ex1 => ?_)
  exact m_iret C hr hlk (by decide) (by decide) dX12_fault_4 ⟨_, rfl, hI, Fr.rf, (iv_any x1)⟩

abbrev MS_X12_status : List (Nat × Nat) := []
abbrev AS_X12_status : List Nat := []
set_option maxHeartbeats 4000000 in
set_option maxRecDepth 100000 in
theorem c_X12_status (l : Launch) (G : Gt) (σ : Sg) (hI : Inv σ) : Mc l G yX12_status cX12_status 1 (some .int) 0 0 0 0 [.ref (G.1 22 0)] σ (PI fun r τ => Inv τ ∧ Fr MS_X12_status AS_X12_status σ τ ∧ IV r (-2147483648) 2147483647) := by
  refine Mc.of (L0 := [some (.ref (G.1 22 0))]) (by decide) (Nat.le_of_ble_eq_true rfl) rfl ?_
  intro p e s m args below meth c C hr hlk
  have C : Cx p s m args c cX12_status 1 "LeanTowerModel" := C
  have k0 : (0 : Int32).toInt = 0 := by decide
  have k1 : (1 : Int32).toInt = 1 := by decide
  refine m_aload_n C dX12_status_0 rfl rfl ?_
  refine g_22_8 C q4_124 dX12_status_1 ?_
  refine m_topi (fun x1 ex1 => ?_)
  exact m_iret C hr hlk (by decide) (by decide) dX12_status_4 ⟨_, rfl, hI, Fr.rf, (iv_any x1)⟩

abbrev MS_X12_next : List (Nat × Nat) := [(22, 11), (22, 12), (22, 13), (22, 15)]
abbrev AS_X12_next : List Nat := []
set_option maxHeartbeats 4000000 in
set_option maxRecDepth 100000 in
theorem c_X12_next (l : Launch) (G : Gt) (σ : Sg) (hI : Inv σ) (hat : (gV σ 22 0 11).toInt ≤ (gV σ 22 0 6).toInt) : Mc l G yX12_next cX12_next 1 none 1 25 0 0 [.ref (G.1 22 0)] σ (PV fun τ => Inv τ ∧ Fr MS_X12_next AS_X12_next σ τ ∧ (gV τ 22 0 11).toInt ≤ (gV τ 22 0 6).toInt) := by
  refine Mc.of (L0 := [some (.ref (G.1 22 0))]) (by decide) (Nat.le_of_ble_eq_true rfl) rfl ?_
  intro p e s m args below meth c C hr hlk
  have C : Cx p s m args c cX12_next 1 "LeanTowerModel" := C
  have k0 : (0 : Int32).toInt = 0 := by decide
  have k1 : (1 : Int32).toInt = 1 := by decide
  have J322 : ∀ (τ : Sg), Inv τ → Fr MS_X12_next AS_X12_next σ τ → (((gV τ 22 0 13).toInt = 2 → (gV τ 22 0 11).toInt < (gV τ 22 0 6).toInt)) → ((gV τ 22 0 11).toInt ≤ (gV τ 22 0 6).toInt) → MW p l e { frames := 1, cells := 0, slots := 0, locals := 25 } s m args below meth c (MQ below (QP G (PV fun τ => Inv τ ∧ Fr MS_X12_next AS_X12_next σ τ ∧ (gV τ 22 0 11).toInt ≤ (gV τ 22 0 6).toInt)) args s 0 0 (aG G)) 1 G 0 0 322 [some (.ref (G.1 22 0))] [] τ := by
    intro τ iτ fτ n1 n2
    have u3 : IV (gV τ 22 0 11) 0 400 := iτ.1 22 0 11
    have u4 : IV (gV τ 22 0 6) 0 400 := iτ.1 22 0 6
    refine m_aload_n C dX12_next_322 rfl rfl ?_
    refine m_dup C dX12_next_323 rfl ?_
    refine g_22_11 C q4_127 dX12_next_324 ?_
    refine m_eqs (w := (gV τ 22 0 11)) rfl ?_
    refine m_aload_n C dX12_next_327 rfl rfl ?_
    refine g_22_13 C q4_129 dX12_next_328 ?_
    refine m_eqs (w := (gV τ 22 0 13)) rfl ?_
    refine m_iconst (v := 2) C dX12_next_331 (by decide) ?_
    refine m_icmp_ne (tgt := 339) C dX12_next_332 (by decide) (fun c5 => ?_) (fun c5 => ?_)
    · have f6 : (gV τ 22 0 13).toInt ≠ 2 := by
        have q : _ := c5
        simp only [ti_nle, ti_nlt, ti_le, ti_lt, ti_eq, ti_ne, Classical.not_not, kt_2] at q
        omega
      refine m_iconst (v := 0) C dX12_next_339 (by decide) ?_
      refine m_iadd C dX12_next_340 ?_
      refine m_topi (fun x7 ex7 => ?_)
      have tx7 : x7.toInt = (gV τ 22 0 11).toInt + 0 := by rw [ex7, ti_addv u3 kc_0 (by decide), kt_0]
      have b8 : IV x7 0 400 := by rw [ex7]; exact iv_add u3 kc_0 (by decide)
      refine p_22_11 C q4_127 dX12_next_341 ?_
      refine m_tops (fun τ9 eτ9 => ?_)
      have i10 : Inv τ9 := eτ9 ▸ Inv.put iτ (by decide) b8
      have f11 : Fr MS_X12_next AS_X12_next σ τ9 := eτ9 ▸ Fr.put (fτ) (Or.inl (by decide))
      have q12 : (gV τ9 22 0 13).toInt = (gV τ 22 0 13).toInt := congrArg Int32.toInt (show (gV τ9 22 0 13) = (gV τ 22 0 13) from (show gV τ9 22 0 13 = (gV τ 22 0 13) from gV_put eτ9 rfl))
      have q13 : (gV τ9 22 0 6).toInt = (gV τ 22 0 6).toInt := congrArg Int32.toInt (show (gV τ9 22 0 6) = (gV τ 22 0 6) from (show gV τ9 22 0 6 = (gV τ 22 0 6) from gV_put eτ9 rfl))
      have q14 : (gV τ9 22 0 11).toInt = x7.toInt := congrArg Int32.toInt (show (gV τ9 22 0 11) = x7 from (show gV τ9 22 0 11 = x7 from gV_put eτ9 (gV_self _ _ _ _ _)))
      exact m_vret C hr hlk (by decide) (by decide) dX12_next_344 ⟨rfl, i10, f11, (by omega)⟩
    · have f15 : (gV τ 22 0 13).toInt = 2 := by
        have q : _ := c5
        simp only [ti_nle, ti_nlt, ti_le, ti_lt, ti_eq, ti_ne, Classical.not_not, kt_2] at q
        omega
      have b16 : IV (gV τ 22 0 13) 2 2 := ⟨by have q1 := (iv_any (gV τ 22 0 13)); have q2 := kc_2; omega, by have q1 := (iv_any (gV τ 22 0 13)); have q2 := kc_2; omega⟩
      refine m_iconst (v := 1) C dX12_next_335 (by decide) ?_
      refine m_goto (tgt := 340) C dX12_next_336 (by decide) ?_
      have b17 : IV (gV τ 22 0 11) 0 399 := ⟨by omega, by omega⟩
      refine m_iadd C dX12_next_340 ?_
      refine m_topi (fun x18 ex18 => ?_)
      have tx18 : x18.toInt = (gV τ 22 0 11).toInt + 1 := by rw [ex18, ti_addv b17 kc_1 (by decide), kt_1]
      have b19 : IV x18 1 400 := by rw [ex18]; exact iv_add b17 kc_1 (by decide)
      refine p_22_11 C q4_127 dX12_next_341 ?_
      refine m_tops (fun τ20 eτ20 => ?_)
      have i21 : Inv τ20 := eτ20 ▸ Inv.put iτ (by decide) (iv_wk b19 (by decide))
      have f22 : Fr MS_X12_next AS_X12_next σ τ20 := eτ20 ▸ Fr.put (fτ) (Or.inl (by decide))
      have q23 : (gV τ20 22 0 13).toInt = (gV τ 22 0 13).toInt := congrArg Int32.toInt (show (gV τ20 22 0 13) = (gV τ 22 0 13) from (show gV τ20 22 0 13 = (gV τ 22 0 13) from gV_put eτ20 rfl))
      have q24 : (gV τ20 22 0 6).toInt = (gV τ 22 0 6).toInt := congrArg Int32.toInt (show (gV τ20 22 0 6) = (gV τ 22 0 6) from (show gV τ20 22 0 6 = (gV τ 22 0 6) from gV_put eτ20 rfl))
      have q25 : (gV τ20 22 0 11).toInt = x18.toInt := congrArg Int32.toInt (show (gV τ20 22 0 11) = x18 from (show gV τ20 22 0 11 = x18 from gV_put eτ20 (gV_self _ _ _ _ _)))
      exact m_vret C hr hlk (by decide) (by decide) dX12_next_344 ⟨rfl, i21, f22, (by omega)⟩
  have J206 : ∀ (n : Nat) (τ : Sg), Inv τ → Fr MS_X12_next AS_X12_next σ τ → (((gV τ 22 0 13).toInt = 2 → (gV τ 22 0 11).toInt < (gV τ 22 0 6).toInt)) → ((gV τ 22 0 11).toInt ≤ (gV τ 22 0 6).toInt) → (400 - (gV τ 22 0 11).toInt).toNat < n → MW p l e { frames := 1, cells := 0, slots := 0, locals := 25 } s m args below meth c (MQ below (QP G (PV fun τ => Inv τ ∧ Fr MS_X12_next AS_X12_next σ τ ∧ (gV τ 22 0 11).toInt ≤ (gV τ 22 0 6).toInt)) args s 0 0 (aG G)) 1 G 0 0 206 [some (.ref (G.1 22 0))] [] τ := by
    intro n
    induction n with
    | zero => intro τ iτ fτ n26 n27 hm; exact absurd hm (Nat.not_lt_zero _)
    | succ n ih206 =>
      intro τ iτ fτ n26 n27 hm206
      have u28 : IV (gV τ 22 0 11) 0 400 := iτ.1 22 0 11
      have u29 : IV (gV τ 22 0 6) 0 400 := iτ.1 22 0 6
      refine m_aload_n C dX12_next_206 rfl rfl ?_
      refine g_22_13 C q4_129 dX12_next_207 ?_
      refine m_eqs (w := (gV τ 22 0 13)) rfl ?_
      refine m_if_eq (tgt := 322) C dX12_next_210 (by decide) (fun c30 => ?_) (fun c30 => ?_)
      · have f31 : (gV τ 22 0 13).toInt = 0 := by
          have q : _ := c30
          simp only [ti_nle, ti_nlt, ti_le, ti_lt, ti_eq, ti_ne, Classical.not_not, kt_0] at q
          omega
        have b32 : IV (gV τ 22 0 13) 0 0 := ⟨by have q1 := (iv_any (gV τ 22 0 13)); have q2 := kc_0; omega, by have q1 := (iv_any (gV τ 22 0 13)); have q2 := kc_0; omega⟩
        exact J322 τ iτ fτ (by omega) (by omega)
      · have f33 : (gV τ 22 0 13).toInt ≠ 0 := by
          have q : _ := c30
          simp only [ti_nle, ti_nlt, ti_le, ti_lt, ti_eq, ti_ne, Classical.not_not, kt_0] at q
          omega
        refine m_aload_n C dX12_next_213 rfl rfl ?_
        refine g_22_11 C q4_127 dX12_next_214 ?_
        refine m_eqs (w := (gV τ 22 0 11)) rfl ?_
        refine m_aload_n C dX12_next_217 rfl rfl ?_
        refine g_22_6 C q4_122 dX12_next_218 ?_
        refine m_eqs (w := (gV τ 22 0 6)) rfl ?_
        refine m_icmp_ge (tgt := 322) C dX12_next_221 (by decide) (fun c34 => ?_) (fun c34 => ?_)
        · have f35 : (gV τ 22 0 6).toInt ≤ (gV τ 22 0 11).toInt := by
            have q : _ := c34
            simp only [ti_nle, ti_nlt, ti_le, ti_lt, ti_eq, ti_ne, Classical.not_not] at q
            omega
          exact J322 τ iτ fτ (by omega) (by omega)
        · have f36 : (gV τ 22 0 11).toInt < (gV τ 22 0 6).toInt := by
            have q : _ := c34
            simp only [ti_nle, ti_nlt, ti_le, ti_lt, ti_eq, ti_ne, Classical.not_not] at q
            omega
          have b37 : IV (gV τ 22 0 11) 0 399 := ⟨by have q1 := u28; have q2 := u29; omega, by have q1 := u28; have q2 := u29; omega⟩
          have b38 : IV (gV τ 22 0 6) 1 400 := ⟨by have q1 := u28; have q2 := u29; omega, by have q1 := u28; have q2 := u29; omega⟩
          refine m_aload_n C dX12_next_224 rfl rfl ?_
          refine g_22_5 C q4_121 dX12_next_225 ?_
          refine m_aload_n C dX12_next_228 rfl rfl ?_
          refine g_22_11 C q4_127 dX12_next_229 ?_
          refine m_eqs (w := (gV τ 22 0 11)) rfl ?_
          refine al_28 C b37 (by decide) rfl dX12_next_232 ?_
          refine m_topi (fun x39 ex39 => ?_)
          refine m_i2l C dX12_next_233 ?_
          refine m_ldc2 (v := 48) C dX12_next_234 q4_237 ?_
          refine m_ldc2 (v := 57) C dX12_next_237 q4_238 ?_
          refine m_callS (n := 3) (st := []) C (c_X12_in l G τ ((x39 : Int32).toInt64) (48) (57) iτ ) q4_190 q4_188 q4_189 q1_7 (by decide +kernel) rfl (by decide) (by decide) rfl (Nat.le_of_ble_eq_true rfl) dX12_next_240 ?_
          rintro _ τ40 ⟨x43, rfl, i41, f42, b44, h46⟩
          have g45 : Fr MS_X12_next AS_X12_next σ τ40 := Fr.call (fτ) f42 (by decide)
          have q47 : (gV τ40 22 0 13).toInt = (gV τ 22 0 13).toInt := congrArg Int32.toInt (show (gV τ40 22 0 13) = (gV τ 22 0 13) from (show gV τ40 22 0 13 = (gV τ 22 0 13) from (f42.1 22 0 (13) (by decide) (by decide)).trans rfl))
          have q48 : (gV τ40 22 0 11).toInt = (gV τ 22 0 11).toInt := congrArg Int32.toInt (show (gV τ40 22 0 11) = (gV τ 22 0 11) from (show gV τ40 22 0 11 = (gV τ 22 0 11) from (f42.1 22 0 (11) (by decide) (by decide)).trans rfl))
          have q49 : (gV τ40 22 0 6).toInt = (gV τ 22 0 6).toInt := congrArg Int32.toInt (show (gV τ40 22 0 6) = (gV τ 22 0 6) from (show gV τ40 22 0 6 = (gV τ 22 0 6) from (f42.1 22 0 (6) (by decide) (by decide)).trans rfl))
          have f50 := tl_i x39
          have f51 := kl_48
          have f52 := kl_57
          show MW p l e _ s m args below meth c _ 1 G 0 0 243 [some (.ref (G.1 22 0))] [.int x43] τ40
          refine m_if_eq (tgt := 322) C dX12_next_243 (by decide) (fun c53 => ?_) (fun c53 => ?_)
          · have f54 : x43.toInt = 0 := by
              have q : _ := c53
              simp only [ti_nle, ti_nlt, ti_le, ti_lt, ti_eq, ti_ne, Classical.not_not, kt_0] at q
              omega
            have b55 : IV x43 0 0 := ⟨by have q1 := b44; have q2 := kc_0; omega, by have q1 := b44; have q2 := kc_0; omega⟩
            exact J322 τ40 i41 g45 (by omega) (by omega)
          · have f56 : x43.toInt ≠ 0 := by
              have q : _ := c53
              simp only [ti_nle, ti_nlt, ti_le, ti_lt, ti_eq, ti_ne, Classical.not_not, kt_0] at q
              omega
            have b57 : IV x43 1 1 := ⟨by have q1 := b44; have q2 := kc_0; omega, by have q1 := b44; have q2 := kc_0; omega⟩
            have b58 : IV x39 48 57 := ⟨by have q1 := (iv_any x39); omega, by have q1 := (iv_any x39); omega⟩
            refine m_aload_n C dX12_next_246 rfl rfl ?_
            refine m_aload_n C dX12_next_247 rfl rfl ?_
            refine g_22_11 C q4_127 dX12_next_248 ?_
            refine m_eqs (w := (gV τ 22 0 11)) (show gV τ40 22 0 11 = (gV τ 22 0 11) from (f42.1 22 0 (11) (by decide) (by decide)).trans rfl) ?_
            refine m_aload_n C dX12_next_251 rfl rfl ?_
            refine g_22_12 C q4_128 dX12_next_252 ?_
            refine m_topi (fun x59 ex59 => ?_)
            refine m_isub C dX12_next_255 ?_
            refine m_topi (fun x60 ex60 => ?_)
            refine m_iconst (v := 3) C dX12_next_256 (by decide) ?_
            refine m_icmp_ge (tgt := 283) C dX12_next_257 (by decide) (fun c61 => ?_) (fun c61 => ?_)
            · have f62 : 3 ≤ x60.toInt := by
                have q : _ := c61
                simp only [ti_nle, ti_nlt, ti_le, ti_lt, ti_eq, ti_ne, Classical.not_not, kt_3] at q
                omega
              have b63 : IV x60 3 2147483647 := ⟨by have q1 := kc_3; have q2 := (iv_any x60); omega, by have q1 := kc_3; have q2 := (iv_any x60); omega⟩
              refine m_iconst (v := 0) C dX12_next_283 (by decide) ?_
              refine p_22_15 C q4_131 dX12_next_284 ?_
              refine m_tops (fun τ64 eτ64 => ?_)
              have i65 : Inv τ64 := eτ64 ▸ Inv.putF i41 (by decide) rfl
              have f66 : Fr MS_X12_next AS_X12_next σ τ64 := eτ64 ▸ Fr.put (g45) (Or.inl (by decide))
              refine m_aload_n C dX12_next_287 rfl rfl ?_
              refine m_aload_n C dX12_next_288 rfl rfl ?_
              refine g_22_11 C q4_127 dX12_next_289 ?_
              refine m_eqs (w := (gV τ 22 0 11)) (show gV τ64 22 0 11 = (gV τ 22 0 11) from gV_put eτ64 (show gV τ40 22 0 11 = (gV τ 22 0 11) from (f42.1 22 0 (11) (by decide) (by decide)).trans rfl)) ?_
              refine m_aload_n C dX12_next_292 rfl rfl ?_
              refine g_22_12 C q4_128 dX12_next_293 ?_
              refine m_eqs (w := x59) (show gV τ64 22 0 12 = x59 from gV_put eτ64 ex59.symm) ?_
              refine m_isub C dX12_next_296 ?_
              refine m_topi (fun x67 ex67 => ?_)
              refine m_iconst (v := 3) C dX12_next_297 (by decide) ?_
              refine m_icmp_ge (tgt := 305) C dX12_next_298 (by decide) (fun c68 => ?_) (fun c68 => ?_)
              · have f69 : 3 ≤ x67.toInt := by
                  have q : _ := c68
                  simp only [ti_nle, ti_nlt, ti_le, ti_lt, ti_eq, ti_ne, Classical.not_not, kt_3] at q
                  omega
                have b70 : IV x67 3 2147483647 := ⟨by have q1 := kc_3; have q2 := (iv_any x67); omega, by have q1 := kc_3; have q2 := (iv_any x67); omega⟩
                refine m_iconst (v := 3) C dX12_next_305 (by decide) ?_
                refine p_22_13 C q4_129 dX12_next_306 ?_
                refine m_tops (fun τ71 eτ71 => ?_)
                have i72 : Inv τ71 := eτ71 ▸ Inv.putF i65 (by decide) rfl
                have f73 : Fr MS_X12_next AS_X12_next σ τ71 := eτ71 ▸ Fr.put (f66) (Or.inl (by decide))
                refine m_aload_n C dX12_next_309 rfl rfl ?_
                refine m_dup C dX12_next_310 rfl ?_
                refine g_22_11 C q4_127 dX12_next_311 ?_
                refine m_eqs (w := (gV τ 22 0 11)) (show gV τ71 22 0 11 = (gV τ 22 0 11) from gV_put eτ71 (show gV τ64 22 0 11 = (gV τ 22 0 11) from gV_put eτ64 (show gV τ40 22 0 11 = (gV τ 22 0 11) from (f42.1 22 0 (11) (by decide) (by decide)).trans rfl))) ?_
                refine m_iconst (v := 1) C dX12_next_314 (by decide) ?_
                refine m_iadd C dX12_next_315 ?_
                refine m_topi (fun x74 ex74 => ?_)
                have tx74 : x74.toInt = (gV τ 22 0 11).toInt + 1 := by rw [ex74, ti_addv b37 kc_1 (by decide), kt_1]
                have b75 : IV x74 1 400 := by rw [ex74]; exact iv_add b37 kc_1 (by decide)
                refine p_22_11 C q4_127 dX12_next_316 ?_
                refine m_tops (fun τ76 eτ76 => ?_)
                have i77 : Inv τ76 := eτ76 ▸ Inv.put i72 (by decide) (iv_wk b75 (by decide))
                have f78 : Fr MS_X12_next AS_X12_next σ τ76 := eτ76 ▸ Fr.put (f73) (Or.inl (by decide))
                refine m_goto (tgt := 206) C dX12_next_319 (by decide) ?_
                have q79 : (gV τ76 22 0 6).toInt = (gV τ 22 0 6).toInt := congrArg Int32.toInt (show (gV τ76 22 0 6) = (gV τ 22 0 6) from (show gV τ76 22 0 6 = (gV τ 22 0 6) from gV_put eτ76 (show gV τ71 22 0 6 = (gV τ 22 0 6) from gV_put eτ71 (show gV τ64 22 0 6 = (gV τ 22 0 6) from gV_put eτ64 (show gV τ40 22 0 6 = (gV τ 22 0 6) from (f42.1 22 0 (6) (by decide) (by decide)).trans rfl)))))
                have q80 : (gV τ76 22 0 13).toInt = 3 := (congrArg Int32.toInt (show (gV τ76 22 0 13) = 3 from (show gV τ76 22 0 13 = 3 from gV_put eτ76 (show gV τ71 22 0 13 = 3 from gV_put eτ71 (gV_self _ _ _ _ _))))).trans kt_3
                have q81 : (gV τ76 22 0 11).toInt = x74.toInt := congrArg Int32.toInt (show (gV τ76 22 0 11) = x74 from (show gV τ76 22 0 11 = x74 from gV_put eτ76 (gV_self _ _ _ _ _)))
                exact ih206 τ76 i77 f78 (by omega) (by omega) (by have q := hm206; omega)
              · have f82 : x67.toInt < 3 := by
                  have q : _ := c68
                  simp only [ti_nle, ti_nlt, ti_le, ti_lt, ti_eq, ti_ne, Classical.not_not, kt_3] at q
                  omega
                have b83 : IV x67 (-2147483648) 2 := ⟨by have q1 := (iv_any x67); have q2 := kc_3; omega, by have q1 := (iv_any x67); have q2 := kc_3; omega⟩
                refine m_iconst (v := 1) C dX12_next_301 (by decide) ?_
                refine m_goto (tgt := 306) C dX12_next_302 (by decide) ?_
                refine p_22_13 C q4_129 dX12_next_306 ?_
                refine m_tops (fun τ84 eτ84 => ?_)
                have i85 : Inv τ84 := eτ84 ▸ Inv.putF i65 (by decide) rfl
                have f86 : Fr MS_X12_next AS_X12_next σ τ84 := eτ84 ▸ Fr.put (f66) (Or.inl (by decide))
                refine m_aload_n C dX12_next_309 rfl rfl ?_
                refine m_dup C dX12_next_310 rfl ?_
                refine g_22_11 C q4_127 dX12_next_311 ?_
                refine m_eqs (w := (gV τ 22 0 11)) (show gV τ84 22 0 11 = (gV τ 22 0 11) from gV_put eτ84 (show gV τ64 22 0 11 = (gV τ 22 0 11) from gV_put eτ64 (show gV τ40 22 0 11 = (gV τ 22 0 11) from (f42.1 22 0 (11) (by decide) (by decide)).trans rfl))) ?_
                refine m_iconst (v := 1) C dX12_next_314 (by decide) ?_
                refine m_iadd C dX12_next_315 ?_
                refine m_topi (fun x87 ex87 => ?_)
                have tx87 : x87.toInt = (gV τ 22 0 11).toInt + 1 := by rw [ex87, ti_addv b37 kc_1 (by decide), kt_1]
                have b88 : IV x87 1 400 := by rw [ex87]; exact iv_add b37 kc_1 (by decide)
                refine p_22_11 C q4_127 dX12_next_316 ?_
                refine m_tops (fun τ89 eτ89 => ?_)
                have i90 : Inv τ89 := eτ89 ▸ Inv.put i85 (by decide) (iv_wk b88 (by decide))
                have f91 : Fr MS_X12_next AS_X12_next σ τ89 := eτ89 ▸ Fr.put (f86) (Or.inl (by decide))
                refine m_goto (tgt := 206) C dX12_next_319 (by decide) ?_
                have q92 : (gV τ89 22 0 6).toInt = (gV τ 22 0 6).toInt := congrArg Int32.toInt (show (gV τ89 22 0 6) = (gV τ 22 0 6) from (show gV τ89 22 0 6 = (gV τ 22 0 6) from gV_put eτ89 (show gV τ84 22 0 6 = (gV τ 22 0 6) from gV_put eτ84 (show gV τ64 22 0 6 = (gV τ 22 0 6) from gV_put eτ64 (show gV τ40 22 0 6 = (gV τ 22 0 6) from (f42.1 22 0 (6) (by decide) (by decide)).trans rfl)))))
                have q93 : (gV τ89 22 0 13).toInt = 1 := (congrArg Int32.toInt (show (gV τ89 22 0 13) = 1 from (show gV τ89 22 0 13 = 1 from gV_put eτ89 (show gV τ84 22 0 13 = 1 from gV_put eτ84 (gV_self _ _ _ _ _))))).trans kt_1
                have q94 : (gV τ89 22 0 11).toInt = x87.toInt := congrArg Int32.toInt (show (gV τ89 22 0 11) = x87 from (show gV τ89 22 0 11 = x87 from gV_put eτ89 (gV_self _ _ _ _ _)))
                exact ih206 τ89 i90 f91 (by omega) (by omega) (by have q := hm206; omega)
            · have f95 : x60.toInt < 3 := by
                have q : _ := c61
                simp only [ti_nle, ti_nlt, ti_le, ti_lt, ti_eq, ti_ne, Classical.not_not, kt_3] at q
                omega
              have b96 : IV x60 (-2147483648) 2 := ⟨by have q1 := (iv_any x60); have q2 := kc_3; omega, by have q1 := (iv_any x60); have q2 := kc_3; omega⟩
              refine m_bipush (v := 10) C dX12_next_260 (by decide) ?_
              refine m_aload_n C dX12_next_262 rfl rfl ?_
              refine g_22_15 C q4_131 dX12_next_263 ?_
              refine m_topi (fun x97 ex97 => ?_)
              refine m_imul C dX12_next_266 ?_
              refine m_topi (fun x98 ex98 => ?_)
              refine m_aload_n C dX12_next_267 rfl rfl ?_
              refine g_22_5 C q4_121 dX12_next_268 ?_
              refine m_aload_n C dX12_next_271 rfl rfl ?_
              refine g_22_11 C q4_127 dX12_next_272 ?_
              refine m_eqs (w := (gV τ 22 0 11)) (show gV τ40 22 0 11 = (gV τ 22 0 11) from (f42.1 22 0 (11) (by decide) (by decide)).trans rfl) ?_
              refine al_28 C b37 (by decide) rfl dX12_next_275 ?_
              refine m_eqs (w := x39) (show gV τ40 28 0 ((gV τ 22 0 11).toInt.toNat) = x39 from (f42.1 28 0 (((gV τ 22 0 11).toInt.toNat)) (by simp) (by decide)).trans ex39.symm) ?_
              refine m_iadd C dX12_next_276 ?_
              refine m_topi (fun x99 ex99 => ?_)
              refine m_bipush (v := 48) C dX12_next_277 (by decide) ?_
              refine m_isub C dX12_next_279 ?_
              refine m_topi (fun x100 ex100 => ?_)
              refine m_goto (tgt := 284) C dX12_next_280 (by decide) ?_
              refine p_22_15 C q4_131 dX12_next_284 ?_
              refine m_tops (fun τ101 eτ101 => ?_)
              have i102 : Inv τ101 := eτ101 ▸ Inv.putF i41 (by decide) rfl
              have f103 : Fr MS_X12_next AS_X12_next σ τ101 := eτ101 ▸ Fr.put (g45) (Or.inl (by decide))
              refine m_aload_n C dX12_next_287 rfl rfl ?_
              refine m_aload_n C dX12_next_288 rfl rfl ?_
              refine g_22_11 C q4_127 dX12_next_289 ?_
              refine m_eqs (w := (gV τ 22 0 11)) (show gV τ101 22 0 11 = (gV τ 22 0 11) from gV_put eτ101 (show gV τ40 22 0 11 = (gV τ 22 0 11) from (f42.1 22 0 (11) (by decide) (by decide)).trans rfl)) ?_
              refine m_aload_n C dX12_next_292 rfl rfl ?_
              refine g_22_12 C q4_128 dX12_next_293 ?_
              refine m_eqs (w := x59) (show gV τ101 22 0 12 = x59 from gV_put eτ101 ex59.symm) ?_
              refine m_isub C dX12_next_296 ?_
              refine m_topi (fun x104 ex104 => ?_)
              refine m_iconst (v := 3) C dX12_next_297 (by decide) ?_
              refine m_icmp_ge (tgt := 305) C dX12_next_298 (by decide) (fun c105 => ?_) (fun c105 => ?_)
              · have f106 : 3 ≤ x104.toInt := by
                  have q : _ := c105
                  simp only [ti_nle, ti_nlt, ti_le, ti_lt, ti_eq, ti_ne, Classical.not_not, kt_3] at q
                  omega
                have b107 : IV x104 3 2147483647 := ⟨by have q1 := kc_3; have q2 := (iv_any x104); omega, by have q1 := kc_3; have q2 := (iv_any x104); omega⟩
                refine m_iconst (v := 3) C dX12_next_305 (by decide) ?_
                refine p_22_13 C q4_129 dX12_next_306 ?_
                refine m_tops (fun τ108 eτ108 => ?_)
                have i109 : Inv τ108 := eτ108 ▸ Inv.putF i102 (by decide) rfl
                have f110 : Fr MS_X12_next AS_X12_next σ τ108 := eτ108 ▸ Fr.put (f103) (Or.inl (by decide))
                refine m_aload_n C dX12_next_309 rfl rfl ?_
                refine m_dup C dX12_next_310 rfl ?_
                refine g_22_11 C q4_127 dX12_next_311 ?_
                refine m_eqs (w := (gV τ 22 0 11)) (show gV τ108 22 0 11 = (gV τ 22 0 11) from gV_put eτ108 (show gV τ101 22 0 11 = (gV τ 22 0 11) from gV_put eτ101 (show gV τ40 22 0 11 = (gV τ 22 0 11) from (f42.1 22 0 (11) (by decide) (by decide)).trans rfl))) ?_
                refine m_iconst (v := 1) C dX12_next_314 (by decide) ?_
                refine m_iadd C dX12_next_315 ?_
                refine m_topi (fun x111 ex111 => ?_)
                have tx111 : x111.toInt = (gV τ 22 0 11).toInt + 1 := by rw [ex111, ti_addv b37 kc_1 (by decide), kt_1]
                have b112 : IV x111 1 400 := by rw [ex111]; exact iv_add b37 kc_1 (by decide)
                refine p_22_11 C q4_127 dX12_next_316 ?_
                refine m_tops (fun τ113 eτ113 => ?_)
                have i114 : Inv τ113 := eτ113 ▸ Inv.put i109 (by decide) (iv_wk b112 (by decide))
                have f115 : Fr MS_X12_next AS_X12_next σ τ113 := eτ113 ▸ Fr.put (f110) (Or.inl (by decide))
                refine m_goto (tgt := 206) C dX12_next_319 (by decide) ?_
                have q116 : (gV τ113 22 0 6).toInt = (gV τ 22 0 6).toInt := congrArg Int32.toInt (show (gV τ113 22 0 6) = (gV τ 22 0 6) from (show gV τ113 22 0 6 = (gV τ 22 0 6) from gV_put eτ113 (show gV τ108 22 0 6 = (gV τ 22 0 6) from gV_put eτ108 (show gV τ101 22 0 6 = (gV τ 22 0 6) from gV_put eτ101 (show gV τ40 22 0 6 = (gV τ 22 0 6) from (f42.1 22 0 (6) (by decide) (by decide)).trans rfl)))))
                have q117 : (gV τ113 22 0 13).toInt = 3 := (congrArg Int32.toInt (show (gV τ113 22 0 13) = 3 from (show gV τ113 22 0 13 = 3 from gV_put eτ113 (show gV τ108 22 0 13 = 3 from gV_put eτ108 (gV_self _ _ _ _ _))))).trans kt_3
                have q118 : (gV τ113 22 0 11).toInt = x111.toInt := congrArg Int32.toInt (show (gV τ113 22 0 11) = x111 from (show gV τ113 22 0 11 = x111 from gV_put eτ113 (gV_self _ _ _ _ _)))
                exact ih206 τ113 i114 f115 (by omega) (by omega) (by have q := hm206; omega)
              · have f119 : x104.toInt < 3 := by
                  have q : _ := c105
                  simp only [ti_nle, ti_nlt, ti_le, ti_lt, ti_eq, ti_ne, Classical.not_not, kt_3] at q
                  omega
                have b120 : IV x104 (-2147483648) 2 := ⟨by have q1 := (iv_any x104); have q2 := kc_3; omega, by have q1 := (iv_any x104); have q2 := kc_3; omega⟩
                refine m_iconst (v := 1) C dX12_next_301 (by decide) ?_
                refine m_goto (tgt := 306) C dX12_next_302 (by decide) ?_
                refine p_22_13 C q4_129 dX12_next_306 ?_
                refine m_tops (fun τ121 eτ121 => ?_)
                have i122 : Inv τ121 := eτ121 ▸ Inv.putF i102 (by decide) rfl
                have f123 : Fr MS_X12_next AS_X12_next σ τ121 := eτ121 ▸ Fr.put (f103) (Or.inl (by decide))
                refine m_aload_n C dX12_next_309 rfl rfl ?_
                refine m_dup C dX12_next_310 rfl ?_
                refine g_22_11 C q4_127 dX12_next_311 ?_
                refine m_eqs (w := (gV τ 22 0 11)) (show gV τ121 22 0 11 = (gV τ 22 0 11) from gV_put eτ121 (show gV τ101 22 0 11 = (gV τ 22 0 11) from gV_put eτ101 (show gV τ40 22 0 11 = (gV τ 22 0 11) from (f42.1 22 0 (11) (by decide) (by decide)).trans rfl))) ?_
                refine m_iconst (v := 1) C dX12_next_314 (by decide) ?_
                refine m_iadd C dX12_next_315 ?_
                refine m_topi (fun x124 ex124 => ?_)
                have tx124 : x124.toInt = (gV τ 22 0 11).toInt + 1 := by rw [ex124, ti_addv b37 kc_1 (by decide), kt_1]
                have b125 : IV x124 1 400 := by rw [ex124]; exact iv_add b37 kc_1 (by decide)
                refine p_22_11 C q4_127 dX12_next_316 ?_
                refine m_tops (fun τ126 eτ126 => ?_)
                have i127 : Inv τ126 := eτ126 ▸ Inv.put i122 (by decide) (iv_wk b125 (by decide))
                have f128 : Fr MS_X12_next AS_X12_next σ τ126 := eτ126 ▸ Fr.put (f123) (Or.inl (by decide))
                refine m_goto (tgt := 206) C dX12_next_319 (by decide) ?_
                have q129 : (gV τ126 22 0 6).toInt = (gV τ 22 0 6).toInt := congrArg Int32.toInt (show (gV τ126 22 0 6) = (gV τ 22 0 6) from (show gV τ126 22 0 6 = (gV τ 22 0 6) from gV_put eτ126 (show gV τ121 22 0 6 = (gV τ 22 0 6) from gV_put eτ121 (show gV τ101 22 0 6 = (gV τ 22 0 6) from gV_put eτ101 (show gV τ40 22 0 6 = (gV τ 22 0 6) from (f42.1 22 0 (6) (by decide) (by decide)).trans rfl)))))
                have q130 : (gV τ126 22 0 13).toInt = 1 := (congrArg Int32.toInt (show (gV τ126 22 0 13) = 1 from (show gV τ126 22 0 13 = 1 from gV_put eτ126 (show gV τ121 22 0 13 = 1 from gV_put eτ121 (gV_self _ _ _ _ _))))).trans kt_1
                have q131 : (gV τ126 22 0 11).toInt = x124.toInt := congrArg Int32.toInt (show (gV τ126 22 0 11) = x124 from (show gV τ126 22 0 11 = x124 from gV_put eτ126 (gV_self _ _ _ _ _)))
                exact ih206 τ126 i127 f128 (by omega) (by omega) (by have q := hm206; omega)
  have J108 : ∀ (n : Nat) (τ : Sg), Inv τ → Fr MS_X12_next AS_X12_next σ τ → (((gV τ 22 0 13).toInt = 2 → (gV τ 22 0 11).toInt < (gV τ 22 0 6).toInt)) → ((gV τ 22 0 11).toInt ≤ (gV τ 22 0 6).toInt) → (400 - (gV τ 22 0 11).toInt).toNat < n → MW p l e { frames := 1, cells := 0, slots := 0, locals := 25 } s m args below meth c (MQ below (QP G (PV fun τ => Inv τ ∧ Fr MS_X12_next AS_X12_next σ τ ∧ (gV τ 22 0 11).toInt ≤ (gV τ 22 0 6).toInt)) args s 0 0 (aG G)) 1 G 0 0 108 [some (.ref (G.1 22 0))] [] τ := by
    intro n
    induction n with
    | zero => intro τ iτ fτ n132 n133 hm; exact absurd hm (Nat.not_lt_zero _)
    | succ n ih108 =>
      intro τ iτ fτ n132 n133 hm108
      have u134 : IV (gV τ 22 0 11) 0 400 := iτ.1 22 0 11
      have u135 : IV (gV τ 22 0 6) 0 400 := iτ.1 22 0 6
      refine m_aload_n C dX12_next_108 rfl rfl ?_
      refine g_22_11 C q4_127 dX12_next_109 ?_
      refine m_eqs (w := (gV τ 22 0 11)) rfl ?_
      refine m_aload_n C dX12_next_112 rfl rfl ?_
      refine g_22_6 C q4_122 dX12_next_113 ?_
      refine m_eqs (w := (gV τ 22 0 6)) rfl ?_
      refine m_icmp_ge (tgt := 206) C dX12_next_116 (by decide) (fun c136 => ?_) (fun c136 => ?_)
      · have f137 : (gV τ 22 0 6).toInt ≤ (gV τ 22 0 11).toInt := by
          have q : _ := c136
          simp only [ti_nle, ti_nlt, ti_le, ti_lt, ti_eq, ti_ne, Classical.not_not] at q
          omega
        exact J206 ((400 - (gV τ 22 0 11).toInt).toNat + 1) τ iτ fτ (by omega) (by omega) (Nat.lt_succ_self _)
      · have f138 : (gV τ 22 0 11).toInt < (gV τ 22 0 6).toInt := by
          have q : _ := c136
          simp only [ti_nle, ti_nlt, ti_le, ti_lt, ti_eq, ti_ne, Classical.not_not] at q
          omega
        have b139 : IV (gV τ 22 0 11) 0 399 := ⟨by have q1 := u134; have q2 := u135; omega, by have q1 := u134; have q2 := u135; omega⟩
        have b140 : IV (gV τ 22 0 6) 1 400 := ⟨by have q1 := u134; have q2 := u135; omega, by have q1 := u134; have q2 := u135; omega⟩
        refine m_aload_n C dX12_next_119 rfl rfl ?_
        refine g_22_5 C q4_121 dX12_next_120 ?_
        refine m_aload_n C dX12_next_123 rfl rfl ?_
        refine g_22_11 C q4_127 dX12_next_124 ?_
        refine m_eqs (w := (gV τ 22 0 11)) rfl ?_
        refine al_28 C b139 (by decide) rfl dX12_next_127 ?_
        refine m_topi (fun x141 ex141 => ?_)
        refine m_i2l C dX12_next_128 ?_
        refine m_ldc2 (v := 97) C dX12_next_129 q4_232 ?_
        refine m_ldc2 (v := 122) C dX12_next_132 q4_233 ?_
        refine m_callS (n := 3) (st := []) C (c_X12_in l G τ ((x141 : Int32).toInt64) (97) (122) iτ ) q4_190 q4_188 q4_189 q1_7 (by decide +kernel) rfl (by decide) (by decide) rfl (Nat.le_of_ble_eq_true rfl) dX12_next_135 ?_
        rintro _ τ142 ⟨x145, rfl, i143, f144, b146, h148⟩
        have g147 : Fr MS_X12_next AS_X12_next σ τ142 := Fr.call (fτ) f144 (by decide)
        have q149 : (gV τ142 22 0 13).toInt = (gV τ 22 0 13).toInt := congrArg Int32.toInt (show (gV τ142 22 0 13) = (gV τ 22 0 13) from (show gV τ142 22 0 13 = (gV τ 22 0 13) from (f144.1 22 0 (13) (by decide) (by decide)).trans rfl))
        have q150 : (gV τ142 22 0 11).toInt = (gV τ 22 0 11).toInt := congrArg Int32.toInt (show (gV τ142 22 0 11) = (gV τ 22 0 11) from (show gV τ142 22 0 11 = (gV τ 22 0 11) from (f144.1 22 0 (11) (by decide) (by decide)).trans rfl))
        have q151 : (gV τ142 22 0 6).toInt = (gV τ 22 0 6).toInt := congrArg Int32.toInt (show (gV τ142 22 0 6) = (gV τ 22 0 6) from (show gV τ142 22 0 6 = (gV τ 22 0 6) from (f144.1 22 0 (6) (by decide) (by decide)).trans rfl))
        have f152 := tl_i x141
        have f153 := kl_97
        have f154 := kl_122
        show MW p l e _ s m args below meth c _ 1 G 0 0 138 [some (.ref (G.1 22 0))] [.int x145] τ142
        refine m_if_eq (tgt := 206) C dX12_next_138 (by decide) (fun c155 => ?_) (fun c155 => ?_)
        · have f156 : x145.toInt = 0 := by
            have q : _ := c155
            simp only [ti_nle, ti_nlt, ti_le, ti_lt, ti_eq, ti_ne, Classical.not_not, kt_0] at q
            omega
          have b157 : IV x145 0 0 := ⟨by have q1 := b146; have q2 := kc_0; omega, by have q1 := b146; have q2 := kc_0; omega⟩
          exact J206 ((400 - (gV τ142 22 0 11).toInt).toNat + 1) τ142 i143 g147 (by omega) (by omega) (Nat.lt_succ_self _)
        · have f158 : x145.toInt ≠ 0 := by
            have q : _ := c155
            simp only [ti_nle, ti_nlt, ti_le, ti_lt, ti_eq, ti_ne, Classical.not_not, kt_0] at q
            omega
          have b159 : IV x145 1 1 := ⟨by have q1 := b146; have q2 := kc_0; omega, by have q1 := b146; have q2 := kc_0; omega⟩
          have b160 : IV x141 97 122 := ⟨by have q1 := (iv_any x141); omega, by have q1 := (iv_any x141); omega⟩
          refine m_aload_n C dX12_next_141 rfl rfl ?_
          refine m_aload_n C dX12_next_142 rfl rfl ?_
          refine g_22_11 C q4_127 dX12_next_143 ?_
          refine m_eqs (w := (gV τ 22 0 11)) (show gV τ142 22 0 11 = (gV τ 22 0 11) from (f144.1 22 0 (11) (by decide) (by decide)).trans rfl) ?_
          refine m_aload_n C dX12_next_146 rfl rfl ?_
          refine g_22_12 C q4_128 dX12_next_147 ?_
          refine m_topi (fun x161 ex161 => ?_)
          refine m_isub C dX12_next_150 ?_
          refine m_topi (fun x162 ex162 => ?_)
          refine m_bipush (v := 9) C dX12_next_151 (by decide) ?_
          refine m_icmp_ge (tgt := 182) C dX12_next_153 (by decide) (fun c163 => ?_) (fun c163 => ?_)
          · have f164 : 9 ≤ x162.toInt := by
              have q : _ := c163
              simp only [ti_nle, ti_nlt, ti_le, ti_lt, ti_eq, ti_ne, Classical.not_not, kt_9] at q
              omega
            have b165 : IV x162 9 2147483647 := ⟨by have q1 := kc_9; have q2 := (iv_any x162); omega, by have q1 := kc_9; have q2 := (iv_any x162); omega⟩
            refine m_ldc2 (v := (-1)) C dX12_next_182 q4_236 ?_
            refine p_22_14 C q4_130 dX12_next_185 ?_
            refine m_tops (fun τ166 eτ166 => ?_)
            have i167 : Inv τ166 := eτ166 ▸ Inv.putJ i143 _
            have f168 : Fr MS_X12_next AS_X12_next σ τ166 := eτ166 ▸ Fr.putJ (g147) _
            refine m_aload_n C dX12_next_188 rfl rfl ?_
            refine m_iconst (v := 0) C dX12_next_189 (by decide) ?_
            refine p_22_13 C q4_129 dX12_next_190 ?_
            refine m_tops (fun τ169 eτ169 => ?_)
            have i170 : Inv τ169 := eτ169 ▸ Inv.putF i167 (by decide) rfl
            have f171 : Fr MS_X12_next AS_X12_next σ τ169 := eτ169 ▸ Fr.put (f168) (Or.inl (by decide))
            refine m_aload_n C dX12_next_193 rfl rfl ?_
            refine m_dup C dX12_next_194 rfl ?_
            refine g_22_11 C q4_127 dX12_next_195 ?_
            refine m_eqs (w := (gV τ 22 0 11)) (show gV τ169 22 0 11 = (gV τ 22 0 11) from gV_put eτ169 (show gV τ166 22 0 11 = (gV τ 22 0 11) from gV_putl eτ166 (show gV τ142 22 0 11 = (gV τ 22 0 11) from (f144.1 22 0 (11) (by decide) (by decide)).trans rfl))) ?_
            refine m_iconst (v := 1) C dX12_next_198 (by decide) ?_
            refine m_iadd C dX12_next_199 ?_
            refine m_topi (fun x172 ex172 => ?_)
            have tx172 : x172.toInt = (gV τ 22 0 11).toInt + 1 := by rw [ex172, ti_addv b139 kc_1 (by decide), kt_1]
            have b173 : IV x172 1 400 := by rw [ex172]; exact iv_add b139 kc_1 (by decide)
            refine p_22_11 C q4_127 dX12_next_200 ?_
            refine m_tops (fun τ174 eτ174 => ?_)
            have i175 : Inv τ174 := eτ174 ▸ Inv.put i170 (by decide) (iv_wk b173 (by decide))
            have f176 : Fr MS_X12_next AS_X12_next σ τ174 := eτ174 ▸ Fr.put (f171) (Or.inl (by decide))
            refine m_goto (tgt := 108) C dX12_next_203 (by decide) ?_
            have q177 : (gV τ174 22 0 6).toInt = (gV τ 22 0 6).toInt := congrArg Int32.toInt (show (gV τ174 22 0 6) = (gV τ 22 0 6) from (show gV τ174 22 0 6 = (gV τ 22 0 6) from gV_put eτ174 (show gV τ169 22 0 6 = (gV τ 22 0 6) from gV_put eτ169 (show gV τ166 22 0 6 = (gV τ 22 0 6) from gV_putl eτ166 (show gV τ142 22 0 6 = (gV τ 22 0 6) from (f144.1 22 0 (6) (by decide) (by decide)).trans rfl)))))
            have q178 : (gV τ174 22 0 13).toInt = 0 := (congrArg Int32.toInt (show (gV τ174 22 0 13) = 0 from (show gV τ174 22 0 13 = 0 from gV_put eτ174 (show gV τ169 22 0 13 = 0 from gV_put eτ169 (gV_self _ _ _ _ _))))).trans kt_0
            have q179 : (gV τ174 22 0 11).toInt = x172.toInt := congrArg Int32.toInt (show (gV τ174 22 0 11) = x172 from (show gV τ174 22 0 11 = x172 from gV_put eτ174 (gV_self _ _ _ _ _)))
            exact ih108 τ174 i175 f176 (by omega) (by omega) (by have q := hm108; omega)
          · have f180 : x162.toInt < 9 := by
              have q : _ := c163
              simp only [ti_nle, ti_nlt, ti_le, ti_lt, ti_eq, ti_ne, Classical.not_not, kt_9] at q
              omega
            have b181 : IV x162 (-2147483648) 8 := ⟨by have q1 := (iv_any x162); have q2 := kc_9; omega, by have q1 := (iv_any x162); have q2 := kc_9; omega⟩
            refine m_ldc2 (v := 32) C dX12_next_156 q4_234 ?_
            refine m_aload_n C dX12_next_159 rfl rfl ?_
            refine g_22_14 C q4_130 dX12_next_160 ?_
            refine m_topl (fun w182 ew182 => ?_)
            refine m_lmul C dX12_next_163 ?_
            refine m_topl (fun w183 ew183 => ?_)
            refine m_aload_n C dX12_next_164 rfl rfl ?_
            refine g_22_5 C q4_121 dX12_next_165 ?_
            refine m_aload_n C dX12_next_168 rfl rfl ?_
            refine g_22_11 C q4_127 dX12_next_169 ?_
            refine m_eqs (w := (gV τ 22 0 11)) (show gV τ142 22 0 11 = (gV τ 22 0 11) from (f144.1 22 0 (11) (by decide) (by decide)).trans rfl) ?_
            refine al_28 C b139 (by decide) rfl dX12_next_172 ?_
            refine m_eqs (w := x141) (show gV τ142 28 0 ((gV τ 22 0 11).toInt.toNat) = x141 from (f144.1 28 0 (((gV τ 22 0 11).toInt.toNat)) (by simp) (by decide)).trans ex141.symm) ?_
            refine m_i2l C dX12_next_173 ?_
            refine m_ladd C dX12_next_174 ?_
            refine m_topl (fun w184 ew184 => ?_)
            refine m_ldc2 (v := 96) C dX12_next_175 q4_235 ?_
            refine m_lsub C dX12_next_178 ?_
            refine m_topl (fun w185 ew185 => ?_)
            refine m_goto (tgt := 185) C dX12_next_179 (by decide) ?_
            refine p_22_14 C q4_130 dX12_next_185 ?_
            refine m_tops (fun τ186 eτ186 => ?_)
            have i187 : Inv τ186 := eτ186 ▸ Inv.putJ i143 _
            have f188 : Fr MS_X12_next AS_X12_next σ τ186 := eτ186 ▸ Fr.putJ (g147) _
            refine m_aload_n C dX12_next_188 rfl rfl ?_
            refine m_iconst (v := 0) C dX12_next_189 (by decide) ?_
            refine p_22_13 C q4_129 dX12_next_190 ?_
            refine m_tops (fun τ189 eτ189 => ?_)
            have i190 : Inv τ189 := eτ189 ▸ Inv.putF i187 (by decide) rfl
            have f191 : Fr MS_X12_next AS_X12_next σ τ189 := eτ189 ▸ Fr.put (f188) (Or.inl (by decide))
            refine m_aload_n C dX12_next_193 rfl rfl ?_
            refine m_dup C dX12_next_194 rfl ?_
            refine g_22_11 C q4_127 dX12_next_195 ?_
            refine m_eqs (w := (gV τ 22 0 11)) (show gV τ189 22 0 11 = (gV τ 22 0 11) from gV_put eτ189 (show gV τ186 22 0 11 = (gV τ 22 0 11) from gV_putl eτ186 (show gV τ142 22 0 11 = (gV τ 22 0 11) from (f144.1 22 0 (11) (by decide) (by decide)).trans rfl))) ?_
            refine m_iconst (v := 1) C dX12_next_198 (by decide) ?_
            refine m_iadd C dX12_next_199 ?_
            refine m_topi (fun x192 ex192 => ?_)
            have tx192 : x192.toInt = (gV τ 22 0 11).toInt + 1 := by rw [ex192, ti_addv b139 kc_1 (by decide), kt_1]
            have b193 : IV x192 1 400 := by rw [ex192]; exact iv_add b139 kc_1 (by decide)
            refine p_22_11 C q4_127 dX12_next_200 ?_
            refine m_tops (fun τ194 eτ194 => ?_)
            have i195 : Inv τ194 := eτ194 ▸ Inv.put i190 (by decide) (iv_wk b193 (by decide))
            have f196 : Fr MS_X12_next AS_X12_next σ τ194 := eτ194 ▸ Fr.put (f191) (Or.inl (by decide))
            refine m_goto (tgt := 108) C dX12_next_203 (by decide) ?_
            have q197 : (gV τ194 22 0 6).toInt = (gV τ 22 0 6).toInt := congrArg Int32.toInt (show (gV τ194 22 0 6) = (gV τ 22 0 6) from (show gV τ194 22 0 6 = (gV τ 22 0 6) from gV_put eτ194 (show gV τ189 22 0 6 = (gV τ 22 0 6) from gV_put eτ189 (show gV τ186 22 0 6 = (gV τ 22 0 6) from gV_putl eτ186 (show gV τ142 22 0 6 = (gV τ 22 0 6) from (f144.1 22 0 (6) (by decide) (by decide)).trans rfl)))))
            have q198 : (gV τ194 22 0 13).toInt = 0 := (congrArg Int32.toInt (show (gV τ194 22 0 13) = 0 from (show gV τ194 22 0 13 = 0 from gV_put eτ194 (show gV τ189 22 0 13 = 0 from gV_put eτ189 (gV_self _ _ _ _ _))))).trans kt_0
            have q199 : (gV τ194 22 0 11).toInt = x192.toInt := congrArg Int32.toInt (show (gV τ194 22 0 11) = x192 from (show gV τ194 22 0 11 = x192 from gV_put eτ194 (gV_self _ _ _ _ _)))
            exact ih108 τ194 i195 f196 (by omega) (by omega) (by have q := hm108; omega)
  have J52 : ∀ (τ : Sg), Inv τ → Fr MS_X12_next AS_X12_next σ τ → ((gV τ 22 0 11).toInt ≤ (gV τ 22 0 6).toInt) → MW p l e { frames := 1, cells := 0, slots := 0, locals := 25 } s m args below meth c (MQ below (QP G (PV fun τ => Inv τ ∧ Fr MS_X12_next AS_X12_next σ τ ∧ (gV τ 22 0 11).toInt ≤ (gV τ 22 0 6).toInt)) args s 0 0 (aG G)) 1 G 0 0 52 [some (.ref (G.1 22 0))] [] τ := by
    intro τ iτ fτ n200
    have u201 : IV (gV τ 22 0 11) 0 400 := iτ.1 22 0 11
    have u202 : IV (gV τ 22 0 6) 0 400 := iτ.1 22 0 6
    refine m_aload_n C dX12_next_52 rfl rfl ?_
    refine m_aload_n C dX12_next_53 rfl rfl ?_
    refine g_22_11 C q4_127 dX12_next_54 ?_
    refine m_eqs (w := (gV τ 22 0 11)) rfl ?_
    refine p_22_12 C q4_128 dX12_next_57 ?_
    refine m_tops (fun τ203 eτ203 => ?_)
    have i204 : Inv τ203 := eτ203 ▸ Inv.putF iτ (by decide) rfl
    have f205 : Fr MS_X12_next AS_X12_next σ τ203 := eτ203 ▸ Fr.put (fτ) (Or.inl (by decide))
    refine m_aload_n C dX12_next_60 rfl rfl ?_
    refine m_aload_n C dX12_next_61 rfl rfl ?_
    refine g_22_11 C q4_127 dX12_next_62 ?_
    refine m_eqs (w := (gV τ 22 0 11)) (show gV τ203 22 0 11 = (gV τ 22 0 11) from gV_put eτ203 rfl) ?_
    refine m_aload_n C dX12_next_65 rfl rfl ?_
    refine g_22_6 C q4_122 dX12_next_66 ?_
    refine m_eqs (w := (gV τ 22 0 6)) (show gV τ203 22 0 6 = (gV τ 22 0 6) from gV_put eτ203 rfl) ?_
    refine m_icmp_ne (tgt := 76) C dX12_next_69 (by decide) (fun c206 => ?_) (fun c206 => ?_)
    · have f207 : (gV τ 22 0 11).toInt ≠ (gV τ 22 0 6).toInt := by
        have q : _ := c206
        simp only [ti_nle, ti_nlt, ti_le, ti_lt, ti_eq, ti_ne, Classical.not_not] at q
        omega
      refine m_aload_n C dX12_next_76 rfl rfl ?_
      refine g_22_5 C q4_121 dX12_next_77 ?_
      refine m_aload_n C dX12_next_80 rfl rfl ?_
      refine g_22_11 C q4_127 dX12_next_81 ?_
      refine m_eqs (w := (gV τ 22 0 11)) (show gV τ203 22 0 11 = (gV τ 22 0 11) from gV_put eτ203 rfl) ?_
      have q208 : (gV τ203 22 0 13).toInt = (gV τ 22 0 13).toInt := congrArg Int32.toInt (show (gV τ203 22 0 13) = (gV τ 22 0 13) from (show gV τ203 22 0 13 = (gV τ 22 0 13) from gV_put eτ203 rfl))
      have q209 : (gV τ203 22 0 11).toInt = (gV τ 22 0 11).toInt := congrArg Int32.toInt (show (gV τ203 22 0 11) = (gV τ 22 0 11) from (show gV τ203 22 0 11 = (gV τ 22 0 11) from gV_put eτ203 rfl))
      have q210 : (gV τ203 22 0 6).toInt = (gV τ 22 0 6).toInt := congrArg Int32.toInt (show (gV τ203 22 0 6) = (gV τ 22 0 6) from (show gV τ203 22 0 6 = (gV τ 22 0 6) from gV_put eτ203 rfl))
      have b211 : IV (gV τ 22 0 11) 0 399 := ⟨by omega, by omega⟩
      refine al_28 C b211 (by decide) rfl dX12_next_84 ?_
      refine m_topi (fun x212 ex212 => ?_)
      refine m_bipush (v := 59) C dX12_next_85 (by decide) ?_
      refine m_icmp_ne (tgt := 94) C dX12_next_87 (by decide) (fun c213 => ?_) (fun c213 => ?_)
      · have f214 : x212.toInt ≠ 59 := by
          have q : _ := c213
          simp only [ti_nle, ti_nlt, ti_le, ti_lt, ti_eq, ti_ne, Classical.not_not, kt_59] at q
          omega
        refine m_iconst (v := 3) C dX12_next_94 (by decide) ?_
        refine p_22_13 C q4_129 dX12_next_95 ?_
        refine m_tops (fun τ215 eτ215 => ?_)
        have i216 : Inv τ215 := eτ215 ▸ Inv.putF i204 (by decide) rfl
        have f217 : Fr MS_X12_next AS_X12_next σ τ215 := eτ215 ▸ Fr.put (f205) (Or.inl (by decide))
        refine m_aload_n C dX12_next_98 rfl rfl ?_
        refine m_lconst (v := 0) C dX12_next_99 (by decide) ?_
        refine p_22_14 C q4_130 dX12_next_100 ?_
        refine m_tops (fun τ218 eτ218 => ?_)
        have i219 : Inv τ218 := eτ218 ▸ Inv.putJ i216 _
        have f220 : Fr MS_X12_next AS_X12_next σ τ218 := eτ218 ▸ Fr.putJ (f217) _
        refine m_aload_n C dX12_next_103 rfl rfl ?_
        refine m_iconst (v := 0) C dX12_next_104 (by decide) ?_
        refine p_22_15 C q4_131 dX12_next_105 ?_
        refine m_tops (fun τ221 eτ221 => ?_)
        have i222 : Inv τ221 := eτ221 ▸ Inv.putF i219 (by decide) rfl
        have f223 : Fr MS_X12_next AS_X12_next σ τ221 := eτ221 ▸ Fr.put (f220) (Or.inl (by decide))
        have q224 : (gV τ221 22 0 11).toInt = (gV τ 22 0 11).toInt := congrArg Int32.toInt (show (gV τ221 22 0 11) = (gV τ 22 0 11) from (show gV τ221 22 0 11 = (gV τ 22 0 11) from gV_put eτ221 (show gV τ218 22 0 11 = (gV τ 22 0 11) from gV_putl eτ218 (show gV τ215 22 0 11 = (gV τ 22 0 11) from gV_put eτ215 (show gV τ203 22 0 11 = (gV τ 22 0 11) from gV_put eτ203 rfl)))))
        have q225 : (gV τ221 22 0 6).toInt = (gV τ 22 0 6).toInt := congrArg Int32.toInt (show (gV τ221 22 0 6) = (gV τ 22 0 6) from (show gV τ221 22 0 6 = (gV τ 22 0 6) from gV_put eτ221 (show gV τ218 22 0 6 = (gV τ 22 0 6) from gV_putl eτ218 (show gV τ215 22 0 6 = (gV τ 22 0 6) from gV_put eτ215 (show gV τ203 22 0 6 = (gV τ 22 0 6) from gV_put eτ203 rfl)))))
        have q226 : (gV τ221 22 0 13).toInt = 3 := (congrArg Int32.toInt (show (gV τ221 22 0 13) = 3 from (show gV τ221 22 0 13 = 3 from gV_put eτ221 (show gV τ218 22 0 13 = 3 from gV_putl eτ218 (show gV τ215 22 0 13 = 3 from gV_put eτ215 (gV_self _ _ _ _ _)))))).trans kt_3
        exact J108 ((400 - (gV τ221 22 0 11).toInt).toNat + 1) τ221 i222 f223 (by omega) (by omega) (Nat.lt_succ_self _)
      · have f227 : x212.toInt = 59 := by
          have q : _ := c213
          simp only [ti_nle, ti_nlt, ti_le, ti_lt, ti_eq, ti_ne, Classical.not_not, kt_59] at q
          omega
        have b228 : IV x212 59 59 := ⟨by have q1 := (iv_any x212); have q2 := kc_59; omega, by have q1 := (iv_any x212); have q2 := kc_59; omega⟩
        refine m_iconst (v := 2) C dX12_next_90 (by decide) ?_
        refine m_goto (tgt := 95) C dX12_next_91 (by decide) ?_
        refine p_22_13 C q4_129 dX12_next_95 ?_
        refine m_tops (fun τ229 eτ229 => ?_)
        have i230 : Inv τ229 := eτ229 ▸ Inv.putF i204 (by decide) rfl
        have f231 : Fr MS_X12_next AS_X12_next σ τ229 := eτ229 ▸ Fr.put (f205) (Or.inl (by decide))
        refine m_aload_n C dX12_next_98 rfl rfl ?_
        refine m_lconst (v := 0) C dX12_next_99 (by decide) ?_
        refine p_22_14 C q4_130 dX12_next_100 ?_
        refine m_tops (fun τ232 eτ232 => ?_)
        have i233 : Inv τ232 := eτ232 ▸ Inv.putJ i230 _
        have f234 : Fr MS_X12_next AS_X12_next σ τ232 := eτ232 ▸ Fr.putJ (f231) _
        refine m_aload_n C dX12_next_103 rfl rfl ?_
        refine m_iconst (v := 0) C dX12_next_104 (by decide) ?_
        refine p_22_15 C q4_131 dX12_next_105 ?_
        refine m_tops (fun τ235 eτ235 => ?_)
        have i236 : Inv τ235 := eτ235 ▸ Inv.putF i233 (by decide) rfl
        have f237 : Fr MS_X12_next AS_X12_next σ τ235 := eτ235 ▸ Fr.put (f234) (Or.inl (by decide))
        have q238 : (gV τ235 22 0 11).toInt = (gV τ 22 0 11).toInt := congrArg Int32.toInt (show (gV τ235 22 0 11) = (gV τ 22 0 11) from (show gV τ235 22 0 11 = (gV τ 22 0 11) from gV_put eτ235 (show gV τ232 22 0 11 = (gV τ 22 0 11) from gV_putl eτ232 (show gV τ229 22 0 11 = (gV τ 22 0 11) from gV_put eτ229 (show gV τ203 22 0 11 = (gV τ 22 0 11) from gV_put eτ203 rfl)))))
        have q239 : (gV τ235 22 0 6).toInt = (gV τ 22 0 6).toInt := congrArg Int32.toInt (show (gV τ235 22 0 6) = (gV τ 22 0 6) from (show gV τ235 22 0 6 = (gV τ 22 0 6) from gV_put eτ235 (show gV τ232 22 0 6 = (gV τ 22 0 6) from gV_putl eτ232 (show gV τ229 22 0 6 = (gV τ 22 0 6) from gV_put eτ229 (show gV τ203 22 0 6 = (gV τ 22 0 6) from gV_put eτ203 rfl)))))
        have q240 : (gV τ235 22 0 13).toInt = 2 := (congrArg Int32.toInt (show (gV τ235 22 0 13) = 2 from (show gV τ235 22 0 13 = 2 from gV_put eτ235 (show gV τ232 22 0 13 = 2 from gV_putl eτ232 (show gV τ229 22 0 13 = 2 from gV_put eτ229 (gV_self _ _ _ _ _)))))).trans kt_2
        exact J108 ((400 - (gV τ235 22 0 11).toInt).toNat + 1) τ235 i236 f237 (by omega) (by omega) (Nat.lt_succ_self _)
    · have f241 : (gV τ 22 0 11).toInt = (gV τ 22 0 6).toInt := by
        have q : _ := c206
        simp only [ti_nle, ti_nlt, ti_le, ti_lt, ti_eq, ti_ne, Classical.not_not] at q
        omega
      refine m_iconst (v := 4) C dX12_next_72 (by decide) ?_
      refine m_goto (tgt := 95) C dX12_next_73 (by decide) ?_
      refine p_22_13 C q4_129 dX12_next_95 ?_
      refine m_tops (fun τ242 eτ242 => ?_)
      have i243 : Inv τ242 := eτ242 ▸ Inv.putF i204 (by decide) rfl
      have f244 : Fr MS_X12_next AS_X12_next σ τ242 := eτ242 ▸ Fr.put (f205) (Or.inl (by decide))
      refine m_aload_n C dX12_next_98 rfl rfl ?_
      refine m_lconst (v := 0) C dX12_next_99 (by decide) ?_
      refine p_22_14 C q4_130 dX12_next_100 ?_
      refine m_tops (fun τ245 eτ245 => ?_)
      have i246 : Inv τ245 := eτ245 ▸ Inv.putJ i243 _
      have f247 : Fr MS_X12_next AS_X12_next σ τ245 := eτ245 ▸ Fr.putJ (f244) _
      refine m_aload_n C dX12_next_103 rfl rfl ?_
      refine m_iconst (v := 0) C dX12_next_104 (by decide) ?_
      refine p_22_15 C q4_131 dX12_next_105 ?_
      refine m_tops (fun τ248 eτ248 => ?_)
      have i249 : Inv τ248 := eτ248 ▸ Inv.putF i246 (by decide) rfl
      have f250 : Fr MS_X12_next AS_X12_next σ τ248 := eτ248 ▸ Fr.put (f247) (Or.inl (by decide))
      have q251 : (gV τ248 22 0 11).toInt = (gV τ 22 0 11).toInt := congrArg Int32.toInt (show (gV τ248 22 0 11) = (gV τ 22 0 11) from (show gV τ248 22 0 11 = (gV τ 22 0 11) from gV_put eτ248 (show gV τ245 22 0 11 = (gV τ 22 0 11) from gV_putl eτ245 (show gV τ242 22 0 11 = (gV τ 22 0 11) from gV_put eτ242 (show gV τ203 22 0 11 = (gV τ 22 0 11) from gV_put eτ203 rfl)))))
      have q252 : (gV τ248 22 0 6).toInt = (gV τ 22 0 6).toInt := congrArg Int32.toInt (show (gV τ248 22 0 6) = (gV τ 22 0 6) from (show gV τ248 22 0 6 = (gV τ 22 0 6) from gV_put eτ248 (show gV τ245 22 0 6 = (gV τ 22 0 6) from gV_putl eτ245 (show gV τ242 22 0 6 = (gV τ 22 0 6) from gV_put eτ242 (show gV τ203 22 0 6 = (gV τ 22 0 6) from gV_put eτ203 rfl)))))
      have q253 : (gV τ248 22 0 13).toInt = 4 := (congrArg Int32.toInt (show (gV τ248 22 0 13) = 4 from (show gV τ248 22 0 13 = 4 from gV_put eτ248 (show gV τ245 22 0 13 = 4 from gV_putl eτ245 (show gV τ242 22 0 13 = 4 from gV_put eτ242 (gV_self _ _ _ _ _)))))).trans kt_4
      exact J108 ((400 - (gV τ248 22 0 11).toInt).toNat + 1) τ248 i249 f250 (by omega) (by omega) (Nat.lt_succ_self _)
  have J0 : ∀ (n : Nat) (τ : Sg), Inv τ → Fr MS_X12_next AS_X12_next σ τ → ((gV τ 22 0 11).toInt ≤ (gV τ 22 0 6).toInt) → (400 - (gV τ 22 0 11).toInt).toNat < n → MW p l e { frames := 1, cells := 0, slots := 0, locals := 25 } s m args below meth c (MQ below (QP G (PV fun τ => Inv τ ∧ Fr MS_X12_next AS_X12_next σ τ ∧ (gV τ 22 0 11).toInt ≤ (gV τ 22 0 6).toInt)) args s 0 0 (aG G)) 1 G 0 0 0 [some (.ref (G.1 22 0))] [] τ := by
    intro n
    induction n with
    | zero => intro τ iτ fτ n254 hm; exact absurd hm (Nat.not_lt_zero _)
    | succ n ih0 =>
      intro τ iτ fτ n254 hm0
      have u255 : IV (gV τ 22 0 11) 0 400 := iτ.1 22 0 11
      have u256 : IV (gV τ 22 0 6) 0 400 := iτ.1 22 0 6
      refine m_aload_n C dX12_next_0 rfl rfl ?_
      refine g_22_11 C q4_127 dX12_next_1 ?_
      refine m_eqs (w := (gV τ 22 0 11)) rfl ?_
      refine m_aload_n C dX12_next_4 rfl rfl ?_
      refine g_22_6 C q4_122 dX12_next_5 ?_
      refine m_eqs (w := (gV τ 22 0 6)) rfl ?_
      refine m_icmp_ge (tgt := 52) C dX12_next_8 (by decide) (fun c257 => ?_) (fun c257 => ?_)
      · have f258 : (gV τ 22 0 6).toInt ≤ (gV τ 22 0 11).toInt := by
          have q : _ := c257
          simp only [ti_nle, ti_nlt, ti_le, ti_lt, ti_eq, ti_ne, Classical.not_not] at q
          omega
        exact J52 τ iτ fτ (by omega)
      · have f259 : (gV τ 22 0 11).toInt < (gV τ 22 0 6).toInt := by
          have q : _ := c257
          simp only [ti_nle, ti_nlt, ti_le, ti_lt, ti_eq, ti_ne, Classical.not_not] at q
          omega
        have b260 : IV (gV τ 22 0 11) 0 399 := ⟨by have q1 := u255; have q2 := u256; omega, by have q1 := u255; have q2 := u256; omega⟩
        have b261 : IV (gV τ 22 0 6) 1 400 := ⟨by have q1 := u255; have q2 := u256; omega, by have q1 := u255; have q2 := u256; omega⟩
        refine m_aload_n C dX12_next_11 rfl rfl ?_
        refine g_22_5 C q4_121 dX12_next_12 ?_
        refine m_aload_n C dX12_next_15 rfl rfl ?_
        refine g_22_11 C q4_127 dX12_next_16 ?_
        refine m_eqs (w := (gV τ 22 0 11)) rfl ?_
        refine al_28 C b260 (by decide) rfl dX12_next_19 ?_
        refine m_topi (fun x262 ex262 => ?_)
        refine m_bipush (v := 32) C dX12_next_20 (by decide) ?_
        refine m_icmp_eq (tgt := 39) C dX12_next_22 (by decide) (fun c263 => ?_) (fun c263 => ?_)
        · have f264 : x262.toInt = 32 := by
            have q : _ := c263
            simp only [ti_nle, ti_nlt, ti_le, ti_lt, ti_eq, ti_ne, Classical.not_not, kt_32] at q
            omega
          have b265 : IV x262 32 32 := ⟨by have q1 := (iv_any x262); have q2 := kc_32; omega, by have q1 := (iv_any x262); have q2 := kc_32; omega⟩
          refine m_aload_n C dX12_next_39 rfl rfl ?_
          refine m_dup C dX12_next_40 rfl ?_
          refine g_22_11 C q4_127 dX12_next_41 ?_
          refine m_eqs (w := (gV τ 22 0 11)) rfl ?_
          refine m_iconst (v := 1) C dX12_next_44 (by decide) ?_
          refine m_iadd C dX12_next_45 ?_
          refine m_topi (fun x266 ex266 => ?_)
          have tx266 : x266.toInt = (gV τ 22 0 11).toInt + 1 := by rw [ex266, ti_addv b260 kc_1 (by decide), kt_1]
          have b267 : IV x266 1 400 := by rw [ex266]; exact iv_add b260 kc_1 (by decide)
          refine p_22_11 C q4_127 dX12_next_46 ?_
          refine m_tops (fun τ268 eτ268 => ?_)
          have i269 : Inv τ268 := eτ268 ▸ Inv.put iτ (by decide) (iv_wk b267 (by decide))
          have f270 : Fr MS_X12_next AS_X12_next σ τ268 := eτ268 ▸ Fr.put (fτ) (Or.inl (by decide))
          refine m_goto (tgt := 0) C dX12_next_49 (by decide) ?_
          have q271 : (gV τ268 22 0 13).toInt = (gV τ 22 0 13).toInt := congrArg Int32.toInt (show (gV τ268 22 0 13) = (gV τ 22 0 13) from (show gV τ268 22 0 13 = (gV τ 22 0 13) from gV_put eτ268 rfl))
          have q272 : (gV τ268 22 0 6).toInt = (gV τ 22 0 6).toInt := congrArg Int32.toInt (show (gV τ268 22 0 6) = (gV τ 22 0 6) from (show gV τ268 22 0 6 = (gV τ 22 0 6) from gV_put eτ268 rfl))
          have q273 : (gV τ268 22 0 11).toInt = x266.toInt := congrArg Int32.toInt (show (gV τ268 22 0 11) = x266 from (show gV τ268 22 0 11 = x266 from gV_put eτ268 (gV_self _ _ _ _ _)))
          exact ih0 τ268 i269 f270 (by omega) (by have q := hm0; omega)
        · have f274 : x262.toInt ≠ 32 := by
            have q : _ := c263
            simp only [ti_nle, ti_nlt, ti_le, ti_lt, ti_eq, ti_ne, Classical.not_not, kt_32] at q
            omega
          refine m_aload_n C dX12_next_25 rfl rfl ?_
          refine g_22_5 C q4_121 dX12_next_26 ?_
          refine m_aload_n C dX12_next_29 rfl rfl ?_
          refine g_22_11 C q4_127 dX12_next_30 ?_
          refine m_eqs (w := (gV τ 22 0 11)) rfl ?_
          refine al_28 C b260 (by decide) rfl dX12_next_33 ?_
          refine m_eqs (w := x262) ex262.symm ?_
          refine m_bipush (v := 10) C dX12_next_34 (by decide) ?_
          refine m_icmp_ne (tgt := 52) C dX12_next_36 (by decide) (fun c275 => ?_) (fun c275 => ?_)
          · have f276 : x262.toInt ≠ 10 := by
              have q : _ := c275
              simp only [ti_nle, ti_nlt, ti_le, ti_lt, ti_eq, ti_ne, Classical.not_not, kt_10] at q
              omega
            exact J52 τ iτ fτ (by omega)
          · have f277 : x262.toInt = 10 := by
              have q : _ := c275
              simp only [ti_nle, ti_nlt, ti_le, ti_lt, ti_eq, ti_ne, Classical.not_not, kt_10] at q
              omega
            have b278 : IV x262 10 10 := ⟨by have q1 := (iv_any x262); have q2 := kc_10; omega, by have q1 := (iv_any x262); have q2 := kc_10; omega⟩
            refine m_aload_n C dX12_next_39 rfl rfl ?_
            refine m_dup C dX12_next_40 rfl ?_
            refine g_22_11 C q4_127 dX12_next_41 ?_
            refine m_eqs (w := (gV τ 22 0 11)) rfl ?_
            refine m_iconst (v := 1) C dX12_next_44 (by decide) ?_
            refine m_iadd C dX12_next_45 ?_
            refine m_topi (fun x279 ex279 => ?_)
            have tx279 : x279.toInt = (gV τ 22 0 11).toInt + 1 := by rw [ex279, ti_addv b260 kc_1 (by decide), kt_1]
            have b280 : IV x279 1 400 := by rw [ex279]; exact iv_add b260 kc_1 (by decide)
            refine p_22_11 C q4_127 dX12_next_46 ?_
            refine m_tops (fun τ281 eτ281 => ?_)
            have i282 : Inv τ281 := eτ281 ▸ Inv.put iτ (by decide) (iv_wk b280 (by decide))
            have f283 : Fr MS_X12_next AS_X12_next σ τ281 := eτ281 ▸ Fr.put (fτ) (Or.inl (by decide))
            refine m_goto (tgt := 0) C dX12_next_49 (by decide) ?_
            have q284 : (gV τ281 22 0 13).toInt = (gV τ 22 0 13).toInt := congrArg Int32.toInt (show (gV τ281 22 0 13) = (gV τ 22 0 13) from (show gV τ281 22 0 13 = (gV τ 22 0 13) from gV_put eτ281 rfl))
            have q285 : (gV τ281 22 0 6).toInt = (gV τ 22 0 6).toInt := congrArg Int32.toInt (show (gV τ281 22 0 6) = (gV τ 22 0 6) from (show gV τ281 22 0 6 = (gV τ 22 0 6) from gV_put eτ281 rfl))
            have q286 : (gV τ281 22 0 11).toInt = x279.toInt := congrArg Int32.toInt (show (gV τ281 22 0 11) = x279 from (show gV τ281 22 0 11 = x279 from gV_put eτ281 (gV_self _ _ _ _ _)))
            exact ih0 τ281 i282 f283 (by omega) (by have q := hm0; omega)
  have u287 : IV (gV σ 22 0 11) 0 400 := hI.1 22 0 11
  have u288 : IV (gV σ 22 0 6) 0 400 := hI.1 22 0 6
  exact J0 ((400 - (gV σ 22 0 11).toInt).toNat + 1) σ hI Fr.rf (by omega) (Nat.lt_succ_self _)

abbrev MS_X12_fails : List (Nat × Nat) := [(22, 16)]
abbrev AS_X12_fails : List Nat := []
set_option maxHeartbeats 4000000 in
set_option maxRecDepth 100000 in
theorem c_X12_fails (l : Launch) (G : Gt) (σ : Sg) (a1 : Int32) (hI : Inv σ) : Mc l G yX12_fails cX12_fails 2 (some .int) 0 0 0 0 [.ref (G.1 22 0), .int a1] σ (PI fun r τ => Inv τ ∧ Fr MS_X12_fails AS_X12_fails σ τ ∧ IV r (-1) (-1) ∧ (r.toInt = -1 ∧ (gV τ 22 0 16).toInt = a1.toInt)) := by
  refine Mc.of (L0 := [some (.ref (G.1 22 0)), some (.int a1)]) (by decide) (Nat.le_of_ble_eq_true rfl) rfl ?_
  intro p e s m args below meth c C hr hlk
  have C : Cx p s m args c cX12_fails 2 "LeanTowerModel" := C
  have k0 : (0 : Int32).toInt = 0 := by decide
  have k1 : (1 : Int32).toInt = 1 := by decide
  refine m_aload_n C dX12_fails_0 rfl rfl ?_
  refine m_iload_n C dX12_fails_1 rfl rfl ?_
  refine p_22_16 C q4_132 dX12_fails_2 ?_
  refine m_tops (fun τ1 eτ1 => ?_)
  have i2 : Inv τ1 := eτ1 ▸ Inv.putF hI (by decide) rfl
  have f3 : Fr MS_X12_fails AS_X12_fails σ τ1 := eτ1 ▸ Fr.put (Fr.rf) (Or.inl (by decide))
  refine m_iconst (v := (-1)) C dX12_fails_5 (by decide) ?_
  have q4 : (gV τ1 22 0 16).toInt = a1.toInt := congrArg Int32.toInt (show (gV τ1 22 0 16) = a1 from (show gV τ1 22 0 16 = a1 from gV_put eτ1 (gV_self _ _ _ _ _)))
  exact m_iret C hr hlk (by decide) (by decide) dX12_fails_6 ⟨_, rfl, i2, f3, kc_m1, (by have q := kt_m1; omega)⟩

abbrev MS_X12_takeNumber : List (Nat × Nat) := [(22, 11), (22, 12), (22, 13), (22, 15), (22, 16)]
abbrev AS_X12_takeNumber : List Nat := []
set_option maxHeartbeats 4000000 in
set_option maxRecDepth 100000 in
theorem c_X12_takeNumber (l : Launch) (G : Gt) (σ : Sg) (a1 : Int32) (a2 : Int32) (a3 : Int32) (hI : Inv σ) (hat : (gV σ 22 0 11).toInt ≤ (gV σ 22 0 6).toInt) : Mc l G yX12_takeNumber cX12_takeNumber 5 (some .int) 2 45 0 0 [.ref (G.1 22 0), .int a1, .int a2, .int a3] σ (PI fun r τ => Inv τ ∧ Fr MS_X12_takeNumber AS_X12_takeNumber σ τ ∧ IV r (-2147483648) 2147483647 ∧ ((gV τ 22 0 11).toInt ≤ (gV τ 22 0 6).toInt) ∧ ((r.toInt = -1 ∧ (gV τ 22 0 16).toInt ≠ 0) ∨ ((gV τ 22 0 16).toInt = (gV σ 22 0 16).toInt ∧ ((a1.toInt ≤ r.toInt ∧ r.toInt ≤ a2.toInt) ∨ r.toInt = a3.toInt)))) := by
  refine Mc.of (L0 := [some (.ref (G.1 22 0)), some (.int a1), some (.int a2), some (.int a3), none]) (by decide) (Nat.le_of_ble_eq_true rfl) rfl ?_
  intro p e s m args below meth c C hr hlk
  have C : Cx p s m args c cX12_takeNumber 5 "LeanTowerModel" := C
  have k0 : (0 : Int32).toInt = 0 := by decide
  have k1 : (1 : Int32).toInt = 1 := by decide
  have u1 : IV (gV σ 22 0 11) 0 400 := hI.1 22 0 11
  have u2 : IV (gV σ 22 0 6) 0 400 := hI.1 22 0 6
  refine m_aload_n C dX12_takeNumber_0 rfl rfl ?_
  refine g_22_13 C q4_129 dX12_takeNumber_1 ?_
  refine m_topi (fun x3 ex3 => ?_)
  refine m_iconst (v := 1) C dX12_takeNumber_4 (by decide) ?_
  refine m_icmp_eq (tgt := 14) C dX12_takeNumber_5 (by decide) (fun c4 => ?_) (fun c4 => ?_)
  · have f5 : x3.toInt = 1 := by
      have q : _ := c4
      simp only [ti_nle, ti_nlt, ti_le, ti_lt, ti_eq, ti_ne, Classical.not_not, kt_1] at q
      omega
    have b6 : IV x3 1 1 := ⟨by have q1 := (iv_any x3); have q2 := kc_1; omega, by have q1 := (iv_any x3); have q2 := kc_1; omega⟩
    refine m_aload_n C dX12_takeNumber_14 rfl rfl ?_
    refine g_22_15 C q4_131 dX12_takeNumber_15 ?_
    refine m_topi (fun x7 ex7 => ?_)
    refine m_i2l C dX12_takeNumber_18 ?_
    refine m_iload_n C dX12_takeNumber_19 rfl rfl ?_
    refine m_i2l C dX12_takeNumber_20 ?_
    refine m_iload_n C dX12_takeNumber_21 rfl rfl ?_
    refine m_i2l C dX12_takeNumber_22 ?_
    refine m_callS (n := 3) (st := []) C (c_X12_in l G σ ((x7 : Int32).toInt64) ((a1 : Int32).toInt64) ((a2 : Int32).toInt64) hI ) q4_190 q4_188 q4_189 q1_7 (by decide +kernel) rfl (by decide) (by decide) rfl (Nat.le_of_ble_eq_true rfl) dX12_takeNumber_23 ?_
    rintro _ τ8 ⟨x11, rfl, i9, f10, b12, h14⟩
    have g13 : Fr MS_X12_takeNumber AS_X12_takeNumber σ τ8 := Fr.call (Fr.rf) f10 (by decide)
    have q15 : (gV τ8 22 0 16).toInt = (gV σ 22 0 16).toInt := congrArg Int32.toInt (show (gV τ8 22 0 16) = (gV σ 22 0 16) from (show gV τ8 22 0 16 = (gV σ 22 0 16) from (f10.1 22 0 (16) (by decide) (by decide)).trans rfl))
    have q16 : (gV τ8 22 0 11).toInt = (gV σ 22 0 11).toInt := congrArg Int32.toInt (show (gV τ8 22 0 11) = (gV σ 22 0 11) from (show gV τ8 22 0 11 = (gV σ 22 0 11) from (f10.1 22 0 (11) (by decide) (by decide)).trans rfl))
    have q17 : (gV τ8 22 0 6).toInt = (gV σ 22 0 6).toInt := congrArg Int32.toInt (show (gV τ8 22 0 6) = (gV σ 22 0 6) from (show gV τ8 22 0 6 = (gV σ 22 0 6) from (f10.1 22 0 (6) (by decide) (by decide)).trans rfl))
    have f18 := tl_i x7
    have f19 := tl_i a1
    have f20 := tl_i a2
    have q21 := (iv_any a1)
    have q22 := (iv_any a2)
    show MW p l e _ s m args below meth c _ 5 G 0 0 26 [some (.ref (G.1 22 0)), some (.int a1), some (.int a2), some (.int a3), none] [.int x11] τ8
    refine m_if_ne (tgt := 43) C dX12_takeNumber_26 (by decide) (fun c23 => ?_) (fun c23 => ?_)
    · have f24 : x11.toInt ≠ 0 := by
        have q : _ := c23
        simp only [ti_nle, ti_nlt, ti_le, ti_lt, ti_eq, ti_ne, Classical.not_not, kt_0] at q
        omega
      have b25 : IV x11 1 1 := ⟨by have q1 := b12; have q2 := kc_0; omega, by have q1 := b12; have q2 := kc_0; omega⟩
      refine m_aload_n C dX12_takeNumber_43 rfl rfl ?_
      refine g_22_15 C q4_131 dX12_takeNumber_44 ?_
      refine m_eqs (w := x7) (show gV τ8 22 0 15 = x7 from (f10.1 22 0 (15) (by decide) (by decide)).trans ex7.symm) ?_
      refine m_istore (L1 := [some (.ref (G.1 22 0)), some (.int a1), some (.int a2), some (.int a3), some (.int x7)]) C dX12_takeNumber_47 (by decide) rfl rfl ?_
      refine m_aload_n C dX12_takeNumber_49 rfl rfl ?_
      refine m_callV (n := 0) (ci := 11) (st := []) C (c_X12_next l G τ8  i9 (by omega)) (by decide) (by decide) rfl rfl rfl q4_231 q4_228 q4_230 q0_28 q1_7 (by decide +kernel) rfl (by decide) (by decide) rfl (Nat.le_of_ble_eq_true rfl) dX12_takeNumber_50 ?_
      rintro _ τ26 ⟨rfl, i27, f28, h32⟩
      have g31 : Fr MS_X12_takeNumber AS_X12_takeNumber σ τ26 := Fr.call (g13) f28 (by decide)
      have u33 : IV (gV τ26 22 0 11) 0 400 := i27.1 22 0 11
      have q34 : (gV τ26 22 0 16).toInt = (gV σ 22 0 16).toInt := congrArg Int32.toInt (show (gV τ26 22 0 16) = (gV σ 22 0 16) from (show gV τ26 22 0 16 = (gV σ 22 0 16) from (f28.1 22 0 (16) (by decide) (by decide)).trans (show gV τ8 22 0 16 = (gV σ 22 0 16) from (f10.1 22 0 (16) (by decide) (by decide)).trans rfl)))
      have q35 : (gV τ26 22 0 6).toInt = (gV σ 22 0 6).toInt := congrArg Int32.toInt (show (gV τ26 22 0 6) = (gV σ 22 0 6) from (show gV τ26 22 0 6 = (gV σ 22 0 6) from (f28.1 22 0 (6) (by decide) (by decide)).trans (show gV τ8 22 0 6 = (gV σ 22 0 6) from (f10.1 22 0 (6) (by decide) (by decide)).trans rfl)))
      show MW p l e _ s m args below meth c _ 5 G 0 0 53 [some (.ref (G.1 22 0)), some (.int a1), some (.int a2), some (.int a3), some (.int x7)] [] τ26
      refine m_iload C dX12_takeNumber_53 rfl ?_
      exact m_iret C hr hlk (by decide) (by decide) dX12_takeNumber_55 ⟨_, rfl, i27, g31, (iv_any x7), ⟨by omega, by omega⟩⟩
    · have f36 : x11.toInt = 0 := by
        have q : _ := c23
        simp only [ti_nle, ti_nlt, ti_le, ti_lt, ti_eq, ti_ne, Classical.not_not, kt_0] at q
        omega
      have b37 : IV x11 0 0 := ⟨by have q1 := b12; have q2 := kc_0; omega, by have q1 := b12; have q2 := kc_0; omega⟩
      refine m_aload_n C dX12_takeNumber_29 rfl rfl ?_
      refine g_22_15 C q4_131 dX12_takeNumber_30 ?_
      refine m_eqs (w := x7) (show gV τ8 22 0 15 = x7 from (f10.1 22 0 (15) (by decide) (by decide)).trans ex7.symm) ?_
      refine m_iload_n C dX12_takeNumber_33 rfl rfl ?_
      refine m_icmp_eq (tgt := 43) C dX12_takeNumber_34 (by decide) (fun c38 => ?_) (fun c38 => ?_)
      · have f39 : x7.toInt = a3.toInt := by
          have q : _ := c38
          simp only [ti_nle, ti_nlt, ti_le, ti_lt, ti_eq, ti_ne, Classical.not_not] at q
          omega
        refine m_aload_n C dX12_takeNumber_43 rfl rfl ?_
        refine g_22_15 C q4_131 dX12_takeNumber_44 ?_
        refine m_eqs (w := x7) (show gV τ8 22 0 15 = x7 from (f10.1 22 0 (15) (by decide) (by decide)).trans ex7.symm) ?_
        refine m_istore (L1 := [some (.ref (G.1 22 0)), some (.int a1), some (.int a2), some (.int a3), some (.int x7)]) C dX12_takeNumber_47 (by decide) rfl rfl ?_
        refine m_aload_n C dX12_takeNumber_49 rfl rfl ?_
        refine m_callV (n := 0) (ci := 11) (st := []) C (c_X12_next l G τ8  i9 (by omega)) (by decide) (by decide) rfl rfl rfl q4_231 q4_228 q4_230 q0_28 q1_7 (by decide +kernel) rfl (by decide) (by decide) rfl (Nat.le_of_ble_eq_true rfl) dX12_takeNumber_50 ?_
        rintro _ τ40 ⟨rfl, i41, f42, h46⟩
        have g45 : Fr MS_X12_takeNumber AS_X12_takeNumber σ τ40 := Fr.call (g13) f42 (by decide)
        have u47 : IV (gV τ40 22 0 11) 0 400 := i41.1 22 0 11
        have q48 : (gV τ40 22 0 16).toInt = (gV σ 22 0 16).toInt := congrArg Int32.toInt (show (gV τ40 22 0 16) = (gV σ 22 0 16) from (show gV τ40 22 0 16 = (gV σ 22 0 16) from (f42.1 22 0 (16) (by decide) (by decide)).trans (show gV τ8 22 0 16 = (gV σ 22 0 16) from (f10.1 22 0 (16) (by decide) (by decide)).trans rfl)))
        have q49 : (gV τ40 22 0 6).toInt = (gV σ 22 0 6).toInt := congrArg Int32.toInt (show (gV τ40 22 0 6) = (gV σ 22 0 6) from (show gV τ40 22 0 6 = (gV σ 22 0 6) from (f42.1 22 0 (6) (by decide) (by decide)).trans (show gV τ8 22 0 6 = (gV σ 22 0 6) from (f10.1 22 0 (6) (by decide) (by decide)).trans rfl)))
        show MW p l e _ s m args below meth c _ 5 G 0 0 53 [some (.ref (G.1 22 0)), some (.int a1), some (.int a2), some (.int a3), some (.int x7)] [] τ40
        refine m_iload C dX12_takeNumber_53 rfl ?_
        exact m_iret C hr hlk (by decide) (by decide) dX12_takeNumber_55 ⟨_, rfl, i41, g45, (iv_any x7), ⟨by omega, by omega⟩⟩
      · have f50 : x7.toInt ≠ a3.toInt := by
          have q : _ := c38
          simp only [ti_nle, ti_nlt, ti_le, ti_lt, ti_eq, ti_ne, Classical.not_not] at q
          omega
        refine m_aload_n C dX12_takeNumber_37 rfl rfl ?_
        refine m_iconst (v := 2) C dX12_takeNumber_38 (by decide) ?_
        refine m_callV (n := 1) (ci := 11) (st := []) C (c_X12_fails l G τ8 (2) i9 ) (by decide) (by decide) rfl rfl rfl q5_11 q5_8 q5_10 q0_31 q1_7 (by decide +kernel) rfl (by decide) (by decide) rfl (Nat.le_of_ble_eq_true rfl) dX12_takeNumber_39 ?_
        rintro _ τ51 ⟨x54, rfl, i52, f53, b55, h57⟩
        have g56 : Fr MS_X12_takeNumber AS_X12_takeNumber σ τ51 := Fr.call (g13) f53 (by decide)
        have q58 : (gV τ51 22 0 11).toInt = (gV σ 22 0 11).toInt := congrArg Int32.toInt (show (gV τ51 22 0 11) = (gV σ 22 0 11) from (show gV τ51 22 0 11 = (gV σ 22 0 11) from (f53.1 22 0 (11) (by decide) (by decide)).trans (show gV τ8 22 0 11 = (gV σ 22 0 11) from (f10.1 22 0 (11) (by decide) (by decide)).trans rfl)))
        have q59 : (gV τ51 22 0 6).toInt = (gV σ 22 0 6).toInt := congrArg Int32.toInt (show (gV τ51 22 0 6) = (gV σ 22 0 6) from (show gV τ51 22 0 6 = (gV σ 22 0 6) from (f53.1 22 0 (6) (by decide) (by decide)).trans (show gV τ8 22 0 6 = (gV σ 22 0 6) from (f10.1 22 0 (6) (by decide) (by decide)).trans rfl)))
        have q60 := kt_2
        show MW p l e _ s m args below meth c _ 5 G 0 0 42 [some (.ref (G.1 22 0)), some (.int a1), some (.int a2), some (.int a3), none] [.int x54] τ51
        exact m_iret C hr hlk (by decide) (by decide) dX12_takeNumber_42 ⟨_, rfl, i52, g56, (iv_wk b55 (by decide)), ⟨by omega, by omega⟩⟩
  · have f61 : x3.toInt ≠ 1 := by
      have q : _ := c4
      simp only [ti_nle, ti_nlt, ti_le, ti_lt, ti_eq, ti_ne, Classical.not_not, kt_1] at q
      omega
    refine m_aload_n C dX12_takeNumber_8 rfl rfl ?_
    refine m_iconst (v := 1) C dX12_takeNumber_9 (by decide) ?_
    refine m_callV (n := 1) (ci := 11) (st := []) C (c_X12_fails l G σ (1) hI ) (by decide) (by decide) rfl rfl rfl q5_11 q5_8 q5_10 q0_31 q1_7 (by decide +kernel) rfl (by decide) (by decide) rfl (Nat.le_of_ble_eq_true rfl) dX12_takeNumber_10 ?_
    rintro _ τ62 ⟨x65, rfl, i63, f64, b66, h68⟩
    have g67 : Fr MS_X12_takeNumber AS_X12_takeNumber σ τ62 := Fr.call (Fr.rf) f64 (by decide)
    have q69 : (gV τ62 22 0 11).toInt = (gV σ 22 0 11).toInt := congrArg Int32.toInt (show (gV τ62 22 0 11) = (gV σ 22 0 11) from (show gV τ62 22 0 11 = (gV σ 22 0 11) from (f64.1 22 0 (11) (by decide) (by decide)).trans rfl))
    have q70 : (gV τ62 22 0 6).toInt = (gV σ 22 0 6).toInt := congrArg Int32.toInt (show (gV τ62 22 0 6) = (gV σ 22 0 6) from (show gV τ62 22 0 6 = (gV σ 22 0 6) from (f64.1 22 0 (6) (by decide) (by decide)).trans rfl))
    have q71 := kt_1
    show MW p l e _ s m args below meth c _ 5 G 0 0 13 [some (.ref (G.1 22 0)), some (.int a1), some (.int a2), some (.int a3), none] [.int x65] τ62
    exact m_iret C hr hlk (by decide) (by decide) dX12_takeNumber_13 ⟨_, rfl, i63, g67, (iv_wk b66 (by decide)), ⟨by omega, by omega⟩⟩

abbrev MS_X12_takeSign : List (Nat × Nat) := [(22, 11), (22, 12), (22, 13), (22, 15), (22, 16)]
abbrev AS_X12_takeSign : List Nat := []
set_option maxHeartbeats 4000000 in
set_option maxRecDepth 100000 in
theorem c_X12_takeSign (l : Launch) (G : Gt) (σ : Sg) (hI : Inv σ) (hat : (gV σ 22 0 11).toInt ≤ (gV σ 22 0 6).toInt) : Mc l G yX12_takeSign cX12_takeSign 1 none 2 45 0 0 [.ref (G.1 22 0)] σ (PV fun τ => Inv τ ∧ Fr MS_X12_takeSign AS_X12_takeSign σ τ ∧ ((gV τ 22 0 11).toInt ≤ (gV τ 22 0 6).toInt) ∧ ((gV τ 22 0 16).toInt = 0 → (gV σ 22 0 16).toInt = 0)) := by
  refine Mc.of (L0 := [some (.ref (G.1 22 0))]) (by decide) (Nat.le_of_ble_eq_true rfl) rfl ?_
  intro p e s m args below meth c C hr hlk
  have C : Cx p s m args c cX12_takeSign 1 "LeanTowerModel" := C
  have k0 : (0 : Int32).toInt = 0 := by decide
  have k1 : (1 : Int32).toInt = 1 := by decide
  have u1 : IV (gV σ 22 0 11) 0 400 := hI.1 22 0 11
  have u2 : IV (gV σ 22 0 6) 0 400 := hI.1 22 0 6
  refine m_aload_n C dX12_takeSign_0 rfl rfl ?_
  refine g_22_16 C q4_132 dX12_takeSign_1 ?_
  refine m_eqs (w := (gV σ 22 0 16)) rfl ?_
  refine m_if_ne (tgt := 23) C dX12_takeSign_4 (by decide) (fun c3 => ?_) (fun c3 => ?_)
  · have f4 : (gV σ 22 0 16).toInt ≠ 0 := by
      have q : _ := c3
      simp only [ti_nle, ti_nlt, ti_le, ti_lt, ti_eq, ti_ne, Classical.not_not, kt_0] at q
      omega
    refine m_aload_n C dX12_takeSign_23 rfl rfl ?_
    refine g_22_16 C q4_132 dX12_takeSign_24 ?_
    refine m_eqs (w := (gV σ 22 0 16)) rfl ?_
    refine m_if_ne (tgt := 34) C dX12_takeSign_27 (by decide) (fun c5 => ?_) (fun c5 => ?_)
    · have f6 : (gV σ 22 0 16).toInt ≠ 0 := by
        have q : _ := c5
        simp only [ti_nle, ti_nlt, ti_le, ti_lt, ti_eq, ti_ne, Classical.not_not, kt_0] at q
        omega
      exact m_vret C hr hlk (by decide) (by decide) dX12_takeSign_34 ⟨rfl, hI, Fr.rf, ⟨by omega, by omega⟩⟩
    · have f7 : (gV σ 22 0 16).toInt = 0 := by
        have q : _ := c5
        simp only [ti_nle, ti_nlt, ti_le, ti_lt, ti_eq, ti_ne, Classical.not_not, kt_0] at q
        omega
      have b8 : IV (gV σ 22 0 16) 0 0 := ⟨by have q1 := (iv_any (gV σ 22 0 16)); have q2 := kc_0; omega, by have q1 := (iv_any (gV σ 22 0 16)); have q2 := kc_0; omega⟩
      refine m_aload_n C dX12_takeSign_30 rfl rfl ?_
      refine m_callV (n := 0) (ci := 11) (st := []) C (c_X12_next l G σ  hI (by omega)) (by decide) (by decide) rfl rfl rfl q4_231 q4_228 q4_230 q0_28 q1_7 (by decide +kernel) rfl (by decide) (by decide) rfl (Nat.le_of_ble_eq_true rfl) dX12_takeSign_31 ?_
      rintro _ τ9 ⟨rfl, i10, f11, h15⟩
      have g14 : Fr MS_X12_takeSign AS_X12_takeSign σ τ9 := Fr.call (Fr.rf) f11 (by decide)
      have u16 : IV (gV τ9 22 0 11) 0 400 := i10.1 22 0 11
      have q17 : (gV τ9 22 0 16).toInt = (gV σ 22 0 16).toInt := congrArg Int32.toInt (show (gV τ9 22 0 16) = (gV σ 22 0 16) from (show gV τ9 22 0 16 = (gV σ 22 0 16) from (f11.1 22 0 (16) (by decide) (by decide)).trans rfl))
      have q18 : (gV τ9 22 0 6).toInt = (gV σ 22 0 6).toInt := congrArg Int32.toInt (show (gV τ9 22 0 6) = (gV σ 22 0 6) from (show gV τ9 22 0 6 = (gV σ 22 0 6) from (f11.1 22 0 (6) (by decide) (by decide)).trans rfl))
      show MW p l e _ s m args below meth c _ 1 G 0 0 34 [some (.ref (G.1 22 0))] [] τ9
      exact m_vret C hr hlk (by decide) (by decide) dX12_takeSign_34 ⟨rfl, i10, g14, ⟨by omega, by omega⟩⟩
  · have f19 : (gV σ 22 0 16).toInt = 0 := by
      have q : _ := c3
      simp only [ti_nle, ti_nlt, ti_le, ti_lt, ti_eq, ti_ne, Classical.not_not, kt_0] at q
      omega
    have b20 : IV (gV σ 22 0 16) 0 0 := ⟨by have q1 := (iv_any (gV σ 22 0 16)); have q2 := kc_0; omega, by have q1 := (iv_any (gV σ 22 0 16)); have q2 := kc_0; omega⟩
    refine m_aload_n C dX12_takeSign_7 rfl rfl ?_
    refine g_22_13 C q4_129 dX12_takeSign_8 ?_
    refine m_topi (fun x21 ex21 => ?_)
    refine m_iconst (v := 2) C dX12_takeSign_11 (by decide) ?_
    refine m_icmp_eq (tgt := 23) C dX12_takeSign_12 (by decide) (fun c22 => ?_) (fun c22 => ?_)
    · have f23 : x21.toInt = 2 := by
        have q : _ := c22
        simp only [ti_nle, ti_nlt, ti_le, ti_lt, ti_eq, ti_ne, Classical.not_not, kt_2] at q
        omega
      have b24 : IV x21 2 2 := ⟨by have q1 := (iv_any x21); have q2 := kc_2; omega, by have q1 := (iv_any x21); have q2 := kc_2; omega⟩
      refine m_aload_n C dX12_takeSign_23 rfl rfl ?_
      refine g_22_16 C q4_132 dX12_takeSign_24 ?_
      refine m_eqs (w := (gV σ 22 0 16)) rfl ?_
      refine m_if_ne (tgt := 34) C dX12_takeSign_27 (by decide) (fun c25 => ?_) (fun c25 => ?_)
      · exfalso
        have q : _ := c25
        simp only [ti_nle, ti_nlt, ti_le, ti_lt, ti_eq, ti_ne, Classical.not_not, kt_0] at q
        have q1 := b20; have q2 := kc_0; omega
      · have f27 : (gV σ 22 0 16).toInt = 0 := by
          have q : _ := c25
          simp only [ti_nle, ti_nlt, ti_le, ti_lt, ti_eq, ti_ne, Classical.not_not, kt_0] at q
          omega
        refine m_aload_n C dX12_takeSign_30 rfl rfl ?_
        refine m_callV (n := 0) (ci := 11) (st := []) C (c_X12_next l G σ  hI (by omega)) (by decide) (by decide) rfl rfl rfl q4_231 q4_228 q4_230 q0_28 q1_7 (by decide +kernel) rfl (by decide) (by decide) rfl (Nat.le_of_ble_eq_true rfl) dX12_takeSign_31 ?_
        rintro _ τ28 ⟨rfl, i29, f30, h34⟩
        have g33 : Fr MS_X12_takeSign AS_X12_takeSign σ τ28 := Fr.call (Fr.rf) f30 (by decide)
        have u35 : IV (gV τ28 22 0 11) 0 400 := i29.1 22 0 11
        have q36 : (gV τ28 22 0 16).toInt = (gV σ 22 0 16).toInt := congrArg Int32.toInt (show (gV τ28 22 0 16) = (gV σ 22 0 16) from (show gV τ28 22 0 16 = (gV σ 22 0 16) from (f30.1 22 0 (16) (by decide) (by decide)).trans rfl))
        have q37 : (gV τ28 22 0 6).toInt = (gV σ 22 0 6).toInt := congrArg Int32.toInt (show (gV τ28 22 0 6) = (gV σ 22 0 6) from (show gV τ28 22 0 6 = (gV σ 22 0 6) from (f30.1 22 0 (6) (by decide) (by decide)).trans rfl))
        show MW p l e _ s m args below meth c _ 1 G 0 0 34 [some (.ref (G.1 22 0))] [] τ28
        exact m_vret C hr hlk (by decide) (by decide) dX12_takeSign_34 ⟨rfl, i29, g33, ⟨by omega, by omega⟩⟩
    · have f38 : x21.toInt ≠ 2 := by
        have q : _ := c22
        simp only [ti_nle, ti_nlt, ti_le, ti_lt, ti_eq, ti_ne, Classical.not_not, kt_2] at q
        omega
      refine m_aload_n C dX12_takeSign_15 rfl rfl ?_
      refine m_iconst (v := 1) C dX12_takeSign_16 (by decide) ?_
      refine p_22_16 C q4_132 dX12_takeSign_17 ?_
      refine m_tops (fun τ39 eτ39 => ?_)
      have i40 : Inv τ39 := eτ39 ▸ Inv.putF hI (by decide) rfl
      have f41 : Fr MS_X12_takeSign AS_X12_takeSign σ τ39 := eτ39 ▸ Fr.put (Fr.rf) (Or.inl (by decide))
      refine m_goto (tgt := 34) C dX12_takeSign_20 (by decide) ?_
      have q42 : (gV τ39 22 0 11).toInt = (gV σ 22 0 11).toInt := congrArg Int32.toInt (show (gV τ39 22 0 11) = (gV σ 22 0 11) from (show gV τ39 22 0 11 = (gV σ 22 0 11) from gV_put eτ39 rfl))
      have q43 : (gV τ39 22 0 6).toInt = (gV σ 22 0 6).toInt := congrArg Int32.toInt (show (gV τ39 22 0 6) = (gV σ 22 0 6) from (show gV τ39 22 0 6 = (gV σ 22 0 6) from gV_put eτ39 rfl))
      have q44 : (gV τ39 22 0 16).toInt = 1 := (congrArg Int32.toInt (show (gV τ39 22 0 16) = 1 from (show gV τ39 22 0 16 = 1 from gV_put eτ39 (gV_self _ _ _ _ _)))).trans kt_1
      exact m_vret C hr hlk (by decide) (by decide) dX12_takeSign_34 ⟨rfl, i40, f41, ⟨by omega, by omega⟩⟩

abbrev MS_X12_takeLaw : List (Nat × Nat) := [(22, 11), (22, 12), (22, 13), (22, 15), (22, 16)]
abbrev AS_X12_takeLaw : List Nat := [23]
set_option maxHeartbeats 4000000 in
set_option maxRecDepth 100000 in
theorem c_X12_takeLaw (l : Launch) (G : Gt) (σ : Sg) (hI : Inv σ) (hat : (gV σ 22 0 11).toInt ≤ (gV σ 22 0 6).toInt) : Mc l G yX12_takeLaw cX12_takeLaw 1 none 3 69 0 0 [.ref (G.1 22 0)] σ (PV fun τ => Inv τ ∧ Fr MS_X12_takeLaw AS_X12_takeLaw σ τ ∧ ((gV τ 22 0 11).toInt ≤ (gV τ 22 0 6).toInt) ∧ (gV τ 23 0 152).toInt = (gV σ 23 0 152).toInt) := by
  refine Mc.of (L0 := [some (.ref (G.1 22 0))]) (by decide) (Nat.le_of_ble_eq_true rfl) rfl ?_
  intro p e s m args below meth c C hr hlk
  have C : Cx p s m args c cX12_takeLaw 1 "LeanTowerModel" := C
  have k0 : (0 : Int32).toInt = 0 := by decide
  have k1 : (1 : Int32).toInt = 1 := by decide
  have u1 : IV (gV σ 23 0 152) 0 7 := hI.1 23 0 152
  have u2 : IV (gV σ 22 0 11) 0 400 := hI.1 22 0 11
  have u3 : IV (gV σ 22 0 6) 0 400 := hI.1 22 0 6
  refine m_aload_n C dX12_takeLaw_0 rfl rfl ?_
  refine g_22_13 C q4_129 dX12_takeLaw_1 ?_
  refine m_topi (fun x4 ex4 => ?_)
  refine m_if_ne (tgt := 18) C dX12_takeLaw_4 (by decide) (fun c5 => ?_) (fun c5 => ?_)
  · have f6 : x4.toInt ≠ 0 := by
      have q : _ := c5
      simp only [ti_nle, ti_nlt, ti_le, ti_lt, ti_eq, ti_ne, Classical.not_not, kt_0] at q
      omega
    refine m_aload_n C dX12_takeLaw_18 rfl rfl ?_
    refine m_iconst (v := 1) C dX12_takeLaw_19 (by decide) ?_
    refine p_22_16 C q4_132 dX12_takeLaw_20 ?_
    refine m_tops (fun τ7 eτ7 => ?_)
    have i8 : Inv τ7 := eτ7 ▸ Inv.putF hI (by decide) rfl
    have f9 : Fr MS_X12_takeLaw AS_X12_takeLaw σ τ7 := eτ7 ▸ Fr.put (Fr.rf) (Or.inl (by decide))
    have q10 : (gV τ7 23 0 152).toInt = (gV σ 23 0 152).toInt := congrArg Int32.toInt (show (gV τ7 23 0 152) = (gV σ 23 0 152) from (show gV τ7 23 0 152 = (gV σ 23 0 152) from gV_put eτ7 rfl))
    have q11 : (gV τ7 22 0 11).toInt = (gV σ 22 0 11).toInt := congrArg Int32.toInt (show (gV τ7 22 0 11) = (gV σ 22 0 11) from (show gV τ7 22 0 11 = (gV σ 22 0 11) from gV_put eτ7 rfl))
    have q12 : (gV τ7 22 0 6).toInt = (gV σ 22 0 6).toInt := congrArg Int32.toInt (show (gV τ7 22 0 6) = (gV σ 22 0 6) from (show gV τ7 22 0 6 = (gV σ 22 0 6) from gV_put eτ7 rfl))
    exact m_vret C hr hlk (by decide) (by decide) dX12_takeLaw_23 ⟨rfl, i8, f9, ⟨by omega, by omega⟩⟩
  · have f13 : x4.toInt = 0 := by
      have q : _ := c5
      simp only [ti_nle, ti_nlt, ti_le, ti_lt, ti_eq, ti_ne, Classical.not_not, kt_0] at q
      omega
    have b14 : IV x4 0 0 := ⟨by have q1 := (iv_any x4); have q2 := kc_0; omega, by have q1 := (iv_any x4); have q2 := kc_0; omega⟩
    refine m_aload_n C dX12_takeLaw_7 rfl rfl ?_
    refine g_22_14 C q4_130 dX12_takeLaw_8 ?_
    refine m_topl (fun w15 ew15 => ?_)
    refine m_ldc2 (v := 12343) C dX12_takeLaw_11 q5_3 ?_
    refine m_lcmp C dX12_takeLaw_14 ?_
    refine m_topi (fun x16 ex16 => ?_)
    have b17 : IV x16 (-1) 1 := by rw [ex16]; rcases lgc w15 12343 with q | q | q <;> omega
    have f18 := lgc w15 12343
    rw [← ex16] at f18
    have f20 := kl_12343
    refine m_if_eq (tgt := 24) C dX12_takeLaw_15 (by decide) (fun c21 => ?_) (fun c21 => ?_)
    · have f22 : x16.toInt = 0 := by
        have q : _ := c21
        simp only [ti_nle, ti_nlt, ti_le, ti_lt, ti_eq, ti_ne, Classical.not_not, kt_0] at q
        omega
      have b23 : IV x16 0 0 := ⟨by have q1 := b17; have q2 := kc_0; omega, by have q1 := b17; have q2 := kc_0; omega⟩
      refine m_aload_n C dX12_takeLaw_24 rfl rfl ?_
      refine m_callV (n := 0) (ci := 11) (st := []) C (c_X12_next l G σ  hI (by omega)) (by decide) (by decide) rfl rfl rfl q4_231 q4_228 q4_230 q0_28 q1_7 (by decide +kernel) rfl (by decide) (by decide) rfl (Nat.le_of_ble_eq_true rfl) dX12_takeLaw_25 ?_
      rintro _ τ24 ⟨rfl, i25, f26, h30⟩
      have g29 : Fr MS_X12_takeLaw AS_X12_takeLaw σ τ24 := Fr.call (Fr.rf) f26 (by decide)
      have u31 : IV (gV τ24 22 0 11) 0 400 := i25.1 22 0 11
      have q32 : (gV τ24 23 0 152).toInt = (gV σ 23 0 152).toInt := congrArg Int32.toInt (show (gV τ24 23 0 152) = (gV σ 23 0 152) from (show gV τ24 23 0 152 = (gV σ 23 0 152) from (f26.1 23 0 (152) (by decide) (by decide)).trans rfl))
      have q33 : (gV τ24 22 0 6).toInt = (gV σ 22 0 6).toInt := congrArg Int32.toInt (show (gV τ24 22 0 6) = (gV σ 22 0 6) from (show gV τ24 22 0 6 = (gV σ 22 0 6) from (f26.1 22 0 (6) (by decide) (by decide)).trans rfl))
      show MW p l e _ s m args below meth c _ 1 G 0 0 28 [some (.ref (G.1 22 0))] [] τ24
      refine m_aload_n C dX12_takeLaw_28 rfl rfl ?_
      refine g_22_0 C q4_116 dX12_takeLaw_29 ?_
      refine m_sipush (v := 150) C dX12_takeLaw_32 (by decide) ?_
      refine m_aload_n C dX12_takeLaw_35 rfl rfl ?_
      refine m_iconst (v := 4) C dX12_takeLaw_36 (by decide) ?_
      refine m_bipush (v := 32) C dX12_takeLaw_37 (by decide) ?_
      refine m_iconst (v := 4) C dX12_takeLaw_39 (by decide) ?_
      have q34 := kt_4
      have q35 := kt_32
      have q36 := kt_4
      refine m_callV (n := 3) (ci := 11) (st := [.int 150, .ref (G.1 23 0)]) C (c_X12_takeNumber l G τ24 (4) (32) (4) i25 (by omega)) (by decide) (by decide) rfl rfl rfl q5_7 q5_4 q5_6 q0_30 q1_7 (by decide +kernel) rfl (by decide) (by decide) rfl (Nat.le_of_ble_eq_true rfl) dX12_takeLaw_40 ?_
      rintro _ τ37 ⟨x40, rfl, i38, f39, b41, h43⟩
      have g42 : Fr MS_X12_takeLaw AS_X12_takeLaw σ τ37 := Fr.call (g29) f39 (by decide)
      have u44 : IV (gV τ37 22 0 11) 0 400 := i38.1 22 0 11
      have q45 : (gV τ37 23 0 152).toInt = (gV σ 23 0 152).toInt := congrArg Int32.toInt (show (gV τ37 23 0 152) = (gV σ 23 0 152) from (show gV τ37 23 0 152 = (gV σ 23 0 152) from (f39.1 23 0 (152) (by decide) (by decide)).trans (show gV τ24 23 0 152 = (gV σ 23 0 152) from (f26.1 23 0 (152) (by decide) (by decide)).trans rfl)))
      have q46 : (gV τ37 22 0 6).toInt = (gV σ 22 0 6).toInt := congrArg Int32.toInt (show (gV τ37 22 0 6) = (gV σ 22 0 6) from (show gV τ37 22 0 6 = (gV σ 22 0 6) from (f39.1 22 0 (6) (by decide) (by decide)).trans (show gV τ24 22 0 6 = (gV σ 22 0 6) from (f26.1 22 0 (6) (by decide) (by decide)).trans rfl)))
      have q47 := kt_4
      have q48 := kt_32
      have q49 := kt_4
      show MW p l e _ s m args below meth c _ 1 G 0 0 43 [some (.ref (G.1 22 0))] [.int x40, .int 150, .ref (G.1 23 0)] τ37
      refine as_23 C kc_150 (by decide) kn_150 dX12_takeLaw_43 ?_
      refine m_tops (fun τ50 eτ50 => ?_)
      have i51 : Inv τ50 := eτ50 ▸ Inv.putW i38 (by decide)
      have f52 : Fr MS_X12_takeLaw AS_X12_takeLaw σ τ50 := eτ50 ▸ Fr.put (g42) (Or.inr (by decide))
      refine m_aload_n C dX12_takeLaw_44 rfl rfl ?_
      refine g_22_0 C q4_116 dX12_takeLaw_45 ?_
      refine m_sipush (v := 151) C dX12_takeLaw_48 (by decide) ?_
      refine m_aload_n C dX12_takeLaw_51 rfl rfl ?_
      refine g_22_16 C q4_132 dX12_takeLaw_52 ?_
      refine m_topi (fun x53 ex53 => ?_)
      refine m_if_ne (tgt := 69) C dX12_takeLaw_55 (by decide) (fun c54 => ?_) (fun c54 => ?_)
      · have f55 : x53.toInt ≠ 0 := by
          have q : _ := c54
          simp only [ti_nle, ti_nlt, ti_le, ti_lt, ti_eq, ti_ne, Classical.not_not, kt_0] at q
          omega
        refine m_iconst (v := 0) C dX12_takeLaw_69 (by decide) ?_
        refine as_23 C kc_151 (by decide) kn_151 dX12_takeLaw_70 ?_
        refine m_tops (fun τ56 eτ56 => ?_)
        have i57 : Inv τ56 := eτ56 ▸ Inv.putW i51 (by decide)
        have f58 : Fr MS_X12_takeLaw AS_X12_takeLaw σ τ56 := eτ56 ▸ Fr.put (f52) (Or.inr (by decide))
        refine m_aload_n C dX12_takeLaw_71 rfl rfl ?_
        have q59 : (gV τ56 23 0 152).toInt = (gV σ 23 0 152).toInt := congrArg Int32.toInt (show (gV τ56 23 0 152) = (gV σ 23 0 152) from (show gV τ56 23 0 152 = (gV σ 23 0 152) from gV_put eτ56 (show gV τ50 23 0 152 = (gV σ 23 0 152) from gV_put eτ50 (show gV τ37 23 0 152 = (gV σ 23 0 152) from (f39.1 23 0 (152) (by decide) (by decide)).trans (show gV τ24 23 0 152 = (gV σ 23 0 152) from (f26.1 23 0 (152) (by decide) (by decide)).trans rfl)))))
        have q60 : (gV τ56 22 0 6).toInt = (gV σ 22 0 6).toInt := congrArg Int32.toInt (show (gV τ56 22 0 6) = (gV σ 22 0 6) from (show gV τ56 22 0 6 = (gV σ 22 0 6) from gV_put eτ56 (show gV τ50 22 0 6 = (gV σ 22 0 6) from gV_put eτ50 (show gV τ37 22 0 6 = (gV σ 22 0 6) from (f39.1 22 0 (6) (by decide) (by decide)).trans (show gV τ24 22 0 6 = (gV σ 22 0 6) from (f26.1 22 0 (6) (by decide) (by decide)).trans rfl)))))
        have q61 : (gV τ56 22 0 11).toInt = (gV τ37 22 0 11).toInt := congrArg Int32.toInt (show (gV τ56 22 0 11) = (gV τ37 22 0 11) from (show gV τ56 22 0 11 = (gV τ37 22 0 11) from gV_put eτ56 (show gV τ50 22 0 11 = (gV τ37 22 0 11) from gV_put eτ50 rfl)))
        refine m_callV (n := 0) (ci := 11) (st := []) C (c_X12_takeSign l G τ56  i57 (by omega)) (by decide) (by decide) rfl rfl rfl q5_15 q5_12 q5_14 q0_32 q1_7 (by decide +kernel) rfl (by decide) (by decide) rfl (Nat.le_of_ble_eq_true rfl) dX12_takeLaw_72 ?_
        rintro _ τ62 ⟨rfl, i63, f64, h68⟩
        have g67 : Fr MS_X12_takeLaw AS_X12_takeLaw σ τ62 := Fr.call (f58) f64 (by decide)
        have u69 : IV (gV τ62 22 0 11) 0 400 := i63.1 22 0 11
        have q70 : (gV τ62 23 0 152).toInt = (gV σ 23 0 152).toInt := congrArg Int32.toInt (show (gV τ62 23 0 152) = (gV σ 23 0 152) from (show gV τ62 23 0 152 = (gV σ 23 0 152) from (f64.1 23 0 (152) (by decide) (by decide)).trans (show gV τ56 23 0 152 = (gV σ 23 0 152) from gV_put eτ56 (show gV τ50 23 0 152 = (gV σ 23 0 152) from gV_put eτ50 (show gV τ37 23 0 152 = (gV σ 23 0 152) from (f39.1 23 0 (152) (by decide) (by decide)).trans (show gV τ24 23 0 152 = (gV σ 23 0 152) from (f26.1 23 0 (152) (by decide) (by decide)).trans rfl))))))
        have q71 : (gV τ62 22 0 6).toInt = (gV σ 22 0 6).toInt := congrArg Int32.toInt (show (gV τ62 22 0 6) = (gV σ 22 0 6) from (show gV τ62 22 0 6 = (gV σ 22 0 6) from (f64.1 22 0 (6) (by decide) (by decide)).trans (show gV τ56 22 0 6 = (gV σ 22 0 6) from gV_put eτ56 (show gV τ50 22 0 6 = (gV σ 22 0 6) from gV_put eτ50 (show gV τ37 22 0 6 = (gV σ 22 0 6) from (f39.1 22 0 (6) (by decide) (by decide)).trans (show gV τ24 22 0 6 = (gV σ 22 0 6) from (f26.1 22 0 (6) (by decide) (by decide)).trans rfl))))))
        show MW p l e _ s m args below meth c _ 1 G 0 0 75 [some (.ref (G.1 22 0))] [] τ62
        exact m_vret C hr hlk (by decide) (by decide) dX12_takeLaw_75 ⟨rfl, i63, g67, ⟨by omega, by omega⟩⟩
      · have f72 : x53.toInt = 0 := by
          have q : _ := c54
          simp only [ti_nle, ti_nlt, ti_le, ti_lt, ti_eq, ti_ne, Classical.not_not, kt_0] at q
          omega
        have b73 : IV x53 0 0 := ⟨by have q1 := (iv_any x53); have q2 := kc_0; omega, by have q1 := (iv_any x53); have q2 := kc_0; omega⟩
        refine m_aload_n C dX12_takeLaw_58 rfl rfl ?_
        refine m_iconst (v := 1) C dX12_takeLaw_59 (by decide) ?_
        refine m_bipush (v := 99) C dX12_takeLaw_60 (by decide) ?_
        refine m_iconst (v := 1) C dX12_takeLaw_62 (by decide) ?_
        have q74 : (gV τ50 23 0 152).toInt = (gV σ 23 0 152).toInt := congrArg Int32.toInt (show (gV τ50 23 0 152) = (gV σ 23 0 152) from (show gV τ50 23 0 152 = (gV σ 23 0 152) from gV_put eτ50 (show gV τ37 23 0 152 = (gV σ 23 0 152) from (f39.1 23 0 (152) (by decide) (by decide)).trans (show gV τ24 23 0 152 = (gV σ 23 0 152) from (f26.1 23 0 (152) (by decide) (by decide)).trans rfl))))
        have q75 : (gV τ50 22 0 6).toInt = (gV σ 22 0 6).toInt := congrArg Int32.toInt (show (gV τ50 22 0 6) = (gV σ 22 0 6) from (show gV τ50 22 0 6 = (gV σ 22 0 6) from gV_put eτ50 (show gV τ37 22 0 6 = (gV σ 22 0 6) from (f39.1 22 0 (6) (by decide) (by decide)).trans (show gV τ24 22 0 6 = (gV σ 22 0 6) from (f26.1 22 0 (6) (by decide) (by decide)).trans rfl))))
        have q76 : (gV τ50 22 0 11).toInt = (gV τ37 22 0 11).toInt := congrArg Int32.toInt (show (gV τ50 22 0 11) = (gV τ37 22 0 11) from (show gV τ50 22 0 11 = (gV τ37 22 0 11) from gV_put eτ50 rfl))
        have q77 := kt_1
        have q78 := kt_99
        have q79 := kt_1
        refine m_callV (n := 3) (ci := 11) (st := [.int 151, .ref (G.1 23 0)]) C (c_X12_takeNumber l G τ50 (1) (99) (1) i51 (by omega)) (by decide) (by decide) rfl rfl rfl q5_7 q5_4 q5_6 q0_30 q1_7 (by decide +kernel) rfl (by decide) (by decide) rfl (Nat.le_of_ble_eq_true rfl) dX12_takeLaw_63 ?_
        rintro _ τ80 ⟨x83, rfl, i81, f82, b84, h86⟩
        have g85 : Fr MS_X12_takeLaw AS_X12_takeLaw σ τ80 := Fr.call (f52) f82 (by decide)
        have u87 : IV (gV τ80 22 0 11) 0 400 := i81.1 22 0 11
        have q88 : (gV τ80 23 0 152).toInt = (gV σ 23 0 152).toInt := congrArg Int32.toInt (show (gV τ80 23 0 152) = (gV σ 23 0 152) from (show gV τ80 23 0 152 = (gV σ 23 0 152) from (f82.1 23 0 (152) (by decide) (by decide)).trans (show gV τ50 23 0 152 = (gV σ 23 0 152) from gV_put eτ50 (show gV τ37 23 0 152 = (gV σ 23 0 152) from (f39.1 23 0 (152) (by decide) (by decide)).trans (show gV τ24 23 0 152 = (gV σ 23 0 152) from (f26.1 23 0 (152) (by decide) (by decide)).trans rfl)))))
        have q89 : (gV τ80 22 0 6).toInt = (gV σ 22 0 6).toInt := congrArg Int32.toInt (show (gV τ80 22 0 6) = (gV σ 22 0 6) from (show gV τ80 22 0 6 = (gV σ 22 0 6) from (f82.1 22 0 (6) (by decide) (by decide)).trans (show gV τ50 22 0 6 = (gV σ 22 0 6) from gV_put eτ50 (show gV τ37 22 0 6 = (gV σ 22 0 6) from (f39.1 22 0 (6) (by decide) (by decide)).trans (show gV τ24 22 0 6 = (gV σ 22 0 6) from (f26.1 22 0 (6) (by decide) (by decide)).trans rfl)))))
        have q90 := kt_1
        have q91 := kt_99
        have q92 := kt_1
        show MW p l e _ s m args below meth c _ 1 G 0 0 66 [some (.ref (G.1 22 0))] [.int x83, .int 151, .ref (G.1 23 0)] τ80
        refine m_goto (tgt := 70) C dX12_takeLaw_66 (by decide) ?_
        refine as_23 C kc_151 (by decide) kn_151 dX12_takeLaw_70 ?_
        refine m_tops (fun τ93 eτ93 => ?_)
        have i94 : Inv τ93 := eτ93 ▸ Inv.putW i81 (by decide)
        have f95 : Fr MS_X12_takeLaw AS_X12_takeLaw σ τ93 := eτ93 ▸ Fr.put (g85) (Or.inr (by decide))
        refine m_aload_n C dX12_takeLaw_71 rfl rfl ?_
        have q96 : (gV τ93 23 0 152).toInt = (gV σ 23 0 152).toInt := congrArg Int32.toInt (show (gV τ93 23 0 152) = (gV σ 23 0 152) from (show gV τ93 23 0 152 = (gV σ 23 0 152) from gV_put eτ93 (show gV τ80 23 0 152 = (gV σ 23 0 152) from (f82.1 23 0 (152) (by decide) (by decide)).trans (show gV τ50 23 0 152 = (gV σ 23 0 152) from gV_put eτ50 (show gV τ37 23 0 152 = (gV σ 23 0 152) from (f39.1 23 0 (152) (by decide) (by decide)).trans (show gV τ24 23 0 152 = (gV σ 23 0 152) from (f26.1 23 0 (152) (by decide) (by decide)).trans rfl))))))
        have q97 : (gV τ93 22 0 6).toInt = (gV σ 22 0 6).toInt := congrArg Int32.toInt (show (gV τ93 22 0 6) = (gV σ 22 0 6) from (show gV τ93 22 0 6 = (gV σ 22 0 6) from gV_put eτ93 (show gV τ80 22 0 6 = (gV σ 22 0 6) from (f82.1 22 0 (6) (by decide) (by decide)).trans (show gV τ50 22 0 6 = (gV σ 22 0 6) from gV_put eτ50 (show gV τ37 22 0 6 = (gV σ 22 0 6) from (f39.1 22 0 (6) (by decide) (by decide)).trans (show gV τ24 22 0 6 = (gV σ 22 0 6) from (f26.1 22 0 (6) (by decide) (by decide)).trans rfl))))))
        have q98 : (gV τ93 22 0 11).toInt = (gV τ80 22 0 11).toInt := congrArg Int32.toInt (show (gV τ93 22 0 11) = (gV τ80 22 0 11) from (show gV τ93 22 0 11 = (gV τ80 22 0 11) from gV_put eτ93 rfl))
        refine m_callV (n := 0) (ci := 11) (st := []) C (c_X12_takeSign l G τ93  i94 (by omega)) (by decide) (by decide) rfl rfl rfl q5_15 q5_12 q5_14 q0_32 q1_7 (by decide +kernel) rfl (by decide) (by decide) rfl (Nat.le_of_ble_eq_true rfl) dX12_takeLaw_72 ?_
        rintro _ τ99 ⟨rfl, i100, f101, h105⟩
        have g104 : Fr MS_X12_takeLaw AS_X12_takeLaw σ τ99 := Fr.call (f95) f101 (by decide)
        have u106 : IV (gV τ99 22 0 11) 0 400 := i100.1 22 0 11
        have q107 : (gV τ99 23 0 152).toInt = (gV σ 23 0 152).toInt := congrArg Int32.toInt (show (gV τ99 23 0 152) = (gV σ 23 0 152) from (show gV τ99 23 0 152 = (gV σ 23 0 152) from (f101.1 23 0 (152) (by decide) (by decide)).trans (show gV τ93 23 0 152 = (gV σ 23 0 152) from gV_put eτ93 (show gV τ80 23 0 152 = (gV σ 23 0 152) from (f82.1 23 0 (152) (by decide) (by decide)).trans (show gV τ50 23 0 152 = (gV σ 23 0 152) from gV_put eτ50 (show gV τ37 23 0 152 = (gV σ 23 0 152) from (f39.1 23 0 (152) (by decide) (by decide)).trans (show gV τ24 23 0 152 = (gV σ 23 0 152) from (f26.1 23 0 (152) (by decide) (by decide)).trans rfl)))))))
        have q108 : (gV τ99 22 0 6).toInt = (gV σ 22 0 6).toInt := congrArg Int32.toInt (show (gV τ99 22 0 6) = (gV σ 22 0 6) from (show gV τ99 22 0 6 = (gV σ 22 0 6) from (f101.1 22 0 (6) (by decide) (by decide)).trans (show gV τ93 22 0 6 = (gV σ 22 0 6) from gV_put eτ93 (show gV τ80 22 0 6 = (gV σ 22 0 6) from (f82.1 22 0 (6) (by decide) (by decide)).trans (show gV τ50 22 0 6 = (gV σ 22 0 6) from gV_put eτ50 (show gV τ37 22 0 6 = (gV σ 22 0 6) from (f39.1 22 0 (6) (by decide) (by decide)).trans (show gV τ24 22 0 6 = (gV σ 22 0 6) from (f26.1 22 0 (6) (by decide) (by decide)).trans rfl)))))))
        show MW p l e _ s m args below meth c _ 1 G 0 0 75 [some (.ref (G.1 22 0))] [] τ99
        exact m_vret C hr hlk (by decide) (by decide) dX12_takeLaw_75 ⟨rfl, i100, g104, ⟨by omega, by omega⟩⟩
    · have f109 : x16.toInt ≠ 0 := by
        have q : _ := c21
        simp only [ti_nle, ti_nlt, ti_le, ti_lt, ti_eq, ti_ne, Classical.not_not, kt_0] at q
        omega
      refine m_aload_n C dX12_takeLaw_18 rfl rfl ?_
      refine m_iconst (v := 1) C dX12_takeLaw_19 (by decide) ?_
      refine p_22_16 C q4_132 dX12_takeLaw_20 ?_
      refine m_tops (fun τ110 eτ110 => ?_)
      have i111 : Inv τ110 := eτ110 ▸ Inv.putF hI (by decide) rfl
      have f112 : Fr MS_X12_takeLaw AS_X12_takeLaw σ τ110 := eτ110 ▸ Fr.put (Fr.rf) (Or.inl (by decide))
      have q113 : (gV τ110 23 0 152).toInt = (gV σ 23 0 152).toInt := congrArg Int32.toInt (show (gV τ110 23 0 152) = (gV σ 23 0 152) from (show gV τ110 23 0 152 = (gV σ 23 0 152) from gV_put eτ110 rfl))
      have q114 : (gV τ110 22 0 11).toInt = (gV σ 22 0 11).toInt := congrArg Int32.toInt (show (gV τ110 22 0 11) = (gV σ 22 0 11) from (show gV τ110 22 0 11 = (gV σ 22 0 11) from gV_put eτ110 rfl))
      have q115 : (gV τ110 22 0 6).toInt = (gV σ 22 0 6).toInt := congrArg Int32.toInt (show (gV τ110 22 0 6) = (gV σ 22 0 6) from (show gV τ110 22 0 6 = (gV σ 22 0 6) from gV_put eτ110 rfl))
      exact m_vret C hr hlk (by decide) (by decide) dX12_takeLaw_23 ⟨rfl, i111, f112, ⟨by omega, by omega⟩⟩

abbrev MS_X12_sortOf : List (Nat × Nat) := []
abbrev AS_X12_sortOf : List Nat := []
set_option maxHeartbeats 4000000 in
set_option maxRecDepth 100000 in
theorem c_X12_sortOf (l : Launch) (G : Gt) (σ : Sg) (a1 : Int64) (hI : Inv σ) : Mc l G yX12_sortOf cX12_sortOf 2 (some .int) 0 0 0 0 [.long a1] σ (PI fun r τ => Inv τ ∧ Fr MS_X12_sortOf AS_X12_sortOf σ τ ∧ IV r (-1) 5) := by
  refine Mc.of (L0 := [some (.long a1), none]) (by decide) (Nat.le_of_ble_eq_true rfl) rfl ?_
  intro p e s m args below meth c C hr hlk
  have C : Cx p s m args c cX12_sortOf 2 "LeanTowerModel" := C
  have k0 : (0 : Int32).toInt = 0 := by decide
  have k1 : (1 : Int32).toInt = 1 := by decide
  refine m_lload_n C dX12_sortOf_0 rfl rfl ?_
  refine m_ldc2 (v := 17494690093) C dX12_sortOf_1 q5_24 ?_
  refine m_lcmp C dX12_sortOf_4 ?_
  refine m_topi (fun x1 ex1 => ?_)
  have b2 : IV x1 (-1) 1 := by rw [ex1]; rcases lgc a1 17494690093 with q | q | q <;> omega
  have f3 := lgc a1 17494690093
  rw [← ex1] at f3
  have f5 := kl_17494690093
  refine m_if_ne (tgt := 12) C dX12_sortOf_5 (by decide) (fun c6 => ?_) (fun c6 => ?_)
  · have f7 : x1.toInt ≠ 0 := by
      have q : _ := c6
      simp only [ti_nle, ti_nlt, ti_le, ti_lt, ti_eq, ti_ne, Classical.not_not, kt_0] at q
      omega
    refine m_lload_n C dX12_sortOf_12 rfl rfl ?_
    refine m_ldc2 (v := 441803) C dX12_sortOf_13 q5_25 ?_
    refine m_lcmp C dX12_sortOf_16 ?_
    refine m_topi (fun x8 ex8 => ?_)
    have b9 : IV x8 (-1) 1 := by rw [ex8]; rcases lgc a1 441803 with q | q | q <;> omega
    have f10 := lgc a1 441803
    rw [← ex8] at f10
    have f12 := kl_441803
    refine m_if_ne (tgt := 24) C dX12_sortOf_17 (by decide) (fun c13 => ?_) (fun c13 => ?_)
    · have f14 : x8.toInt ≠ 0 := by
        have q : _ := c13
        simp only [ti_nle, ti_nlt, ti_le, ti_lt, ti_eq, ti_ne, Classical.not_not, kt_0] at q
        omega
      refine m_lload_n C dX12_sortOf_24 rfl rfl ?_
      refine m_ldc2 (v := 24416759) C dX12_sortOf_25 q5_26 ?_
      refine m_lcmp C dX12_sortOf_28 ?_
      refine m_topi (fun x15 ex15 => ?_)
      have b16 : IV x15 (-1) 1 := by rw [ex15]; rcases lgc a1 24416759 with q | q | q <;> omega
      have f17 := lgc a1 24416759
      rw [← ex15] at f17
      have f19 := kl_24416759
      refine m_if_ne (tgt := 36) C dX12_sortOf_29 (by decide) (fun c20 => ?_) (fun c20 => ?_)
      · have f21 : x15.toInt ≠ 0 := by
          have q : _ := c20
          simp only [ti_nle, ti_nlt, ti_le, ti_lt, ti_eq, ti_ne, Classical.not_not, kt_0] at q
          omega
        refine m_lload_n C dX12_sortOf_36 rfl rfl ?_
        refine m_ldc2 (v := 77177328) C dX12_sortOf_37 q5_27 ?_
        refine m_lcmp C dX12_sortOf_40 ?_
        refine m_topi (fun x22 ex22 => ?_)
        have b23 : IV x22 (-1) 1 := by rw [ex22]; rcases lgc a1 77177328 with q | q | q <;> omega
        have f24 := lgc a1 77177328
        rw [← ex22] at f24
        have f26 := kl_77177328
        refine m_if_ne (tgt := 48) C dX12_sortOf_41 (by decide) (fun c27 => ?_) (fun c27 => ?_)
        · have f28 : x22.toInt ≠ 0 := by
            have q : _ := c27
            simp only [ti_nle, ti_nlt, ti_le, ti_lt, ti_eq, ti_ne, Classical.not_not, kt_0] at q
            omega
          refine m_lload_n C dX12_sortOf_48 rfl rfl ?_
          refine m_ldc2 (v := 2553) C dX12_sortOf_49 q5_28 ?_
          refine m_lcmp C dX12_sortOf_52 ?_
          refine m_topi (fun x29 ex29 => ?_)
          have b30 : IV x29 (-1) 1 := by rw [ex29]; rcases lgc a1 2553 with q | q | q <;> omega
          have f31 := lgc a1 2553
          rw [← ex29] at f31
          have f33 := kl_2553
          refine m_if_ne (tgt := 60) C dX12_sortOf_53 (by decide) (fun c34 => ?_) (fun c34 => ?_)
          · have f35 : x29.toInt ≠ 0 := by
              have q : _ := c34
              simp only [ti_nle, ti_nlt, ti_le, ti_lt, ti_eq, ti_ne, Classical.not_not, kt_0] at q
              omega
            refine m_iconst (v := (-1)) C dX12_sortOf_60 (by decide) ?_
            exact m_iret C hr hlk (by decide) (by decide) dX12_sortOf_61 ⟨_, rfl, hI, Fr.rf, (iv_wk kc_m1 (by decide))⟩
          · have f36 : x29.toInt = 0 := by
              have q : _ := c34
              simp only [ti_nle, ti_nlt, ti_le, ti_lt, ti_eq, ti_ne, Classical.not_not, kt_0] at q
              omega
            have b37 : IV x29 0 0 := ⟨by have q1 := b30; have q2 := kc_0; omega, by have q1 := b30; have q2 := kc_0; omega⟩
            refine m_iconst (v := 3) C dX12_sortOf_56 (by decide) ?_
            refine m_goto (tgt := 61) C dX12_sortOf_57 (by decide) ?_
            exact m_iret C hr hlk (by decide) (by decide) dX12_sortOf_61 ⟨_, rfl, hI, Fr.rf, (iv_wk kc_3 (by decide))⟩
        · have f38 : x22.toInt = 0 := by
            have q : _ := c27
            simp only [ti_nle, ti_nlt, ti_le, ti_lt, ti_eq, ti_ne, Classical.not_not, kt_0] at q
            omega
          have b39 : IV x22 0 0 := ⟨by have q1 := b23; have q2 := kc_0; omega, by have q1 := b23; have q2 := kc_0; omega⟩
          refine m_iconst (v := 5) C dX12_sortOf_44 (by decide) ?_
          refine m_goto (tgt := 61) C dX12_sortOf_45 (by decide) ?_
          exact m_iret C hr hlk (by decide) (by decide) dX12_sortOf_61 ⟨_, rfl, hI, Fr.rf, (iv_wk kc_5 (by decide))⟩
      · have f40 : x15.toInt = 0 := by
          have q : _ := c20
          simp only [ti_nle, ti_nlt, ti_le, ti_lt, ti_eq, ti_ne, Classical.not_not, kt_0] at q
          omega
        have b41 : IV x15 0 0 := ⟨by have q1 := b16; have q2 := kc_0; omega, by have q1 := b16; have q2 := kc_0; omega⟩
        refine m_iconst (v := 2) C dX12_sortOf_32 (by decide) ?_
        refine m_goto (tgt := 61) C dX12_sortOf_33 (by decide) ?_
        exact m_iret C hr hlk (by decide) (by decide) dX12_sortOf_61 ⟨_, rfl, hI, Fr.rf, (iv_wk kc_2 (by decide))⟩
    · have f42 : x8.toInt = 0 := by
        have q : _ := c13
        simp only [ti_nle, ti_nlt, ti_le, ti_lt, ti_eq, ti_ne, Classical.not_not, kt_0] at q
        omega
      have b43 : IV x8 0 0 := ⟨by have q1 := b9; have q2 := kc_0; omega, by have q1 := b9; have q2 := kc_0; omega⟩
      refine m_iconst (v := 4) C dX12_sortOf_20 (by decide) ?_
      refine m_goto (tgt := 61) C dX12_sortOf_21 (by decide) ?_
      exact m_iret C hr hlk (by decide) (by decide) dX12_sortOf_61 ⟨_, rfl, hI, Fr.rf, (iv_wk kc_4 (by decide))⟩
  · have f44 : x1.toInt = 0 := by
      have q : _ := c6
      simp only [ti_nle, ti_nlt, ti_le, ti_lt, ti_eq, ti_ne, Classical.not_not, kt_0] at q
      omega
    have b45 : IV x1 0 0 := ⟨by have q1 := b2; have q2 := kc_0; omega, by have q1 := b2; have q2 := kc_0; omega⟩
    refine m_iconst (v := 1) C dX12_sortOf_8 (by decide) ?_
    refine m_goto (tgt := 61) C dX12_sortOf_9 (by decide) ?_
    exact m_iret C hr hlk (by decide) (by decide) dX12_sortOf_61 ⟨_, rfl, hI, Fr.rf, (iv_wk kc_1 (by decide))⟩

abbrev MS_X12_isTower : List (Nat × Nat) := []
abbrev AS_X12_isTower : List Nat := []
set_option maxHeartbeats 4000000 in
set_option maxRecDepth 100000 in
theorem c_X12_isTower (l : Launch) (G : Gt) (σ : Sg) (hI : Inv σ) : Mc l G yX12_isTower cX12_isTower 1 (some .boolean) 0 0 0 0 [.ref (G.1 22 0)] σ (PI fun r τ => Inv τ ∧ Fr MS_X12_isTower AS_X12_isTower σ τ ∧ IV r 0 1) := by
  refine Mc.of (L0 := [some (.ref (G.1 22 0))]) (by decide) (Nat.le_of_ble_eq_true rfl) rfl ?_
  intro p e s m args below meth c C hr hlk
  have C : Cx p s m args c cX12_isTower 1 "LeanTowerModel" := C
  have k0 : (0 : Int32).toInt = 0 := by decide
  have k1 : (1 : Int32).toInt = 1 := by decide
  refine m_aload_n C dX12_isTower_0 rfl rfl ?_
  refine g_22_0 C q4_116 dX12_isTower_1 ?_
  refine m_iconst (v := 0) C dX12_isTower_4 (by decide) ?_
  refine al_23 C kc_0 (by decide) kn_0 dX12_isTower_5 ?_
  refine m_topi (fun x1 ex1 => ?_)
  refine m_if_le (tgt := 13) C dX12_isTower_6 (by decide) (fun c2 => ?_) (fun c2 => ?_)
  · have f3 : x1.toInt ≤ 0 := by
      have q : _ := c2
      simp only [ti_nle, ti_nlt, ti_le, ti_lt, ti_eq, ti_ne, Classical.not_not, kt_0] at q
      omega
    have b4 : IV x1 (-2147483648) 0 := ⟨by have q1 := (iv_any x1); have q2 := kc_0; omega, by have q1 := (iv_any x1); have q2 := kc_0; omega⟩
    refine m_iconst (v := 0) C dX12_isTower_13 (by decide) ?_
    exact m_zret C hr rfl hlk (by decide) (by decide) dX12_isTower_14 ⟨_, rfl, hI, Fr.rf, (iv_wk kc_0 (by decide))⟩
  · have f5 : 0 < x1.toInt := by
      have q : _ := c2
      simp only [ti_nle, ti_nlt, ti_le, ti_lt, ti_eq, ti_ne, Classical.not_not, kt_0] at q
      omega
    have b6 : IV x1 1 2147483647 := ⟨by have q1 := kc_0; have q2 := (iv_any x1); omega, by have q1 := kc_0; have q2 := (iv_any x1); omega⟩
    refine m_iconst (v := 1) C dX12_isTower_9 (by decide) ?_
    refine m_goto (tgt := 14) C dX12_isTower_10 (by decide) ?_
    exact m_zret C hr rfl hlk (by decide) (by decide) dX12_isTower_14 ⟨_, rfl, hI, Fr.rf, (iv_wk kc_1 (by decide))⟩

abbrev MS_X12_isOne : List (Nat × Nat) := []
abbrev AS_X12_isOne : List Nat := []
set_option maxHeartbeats 4000000 in
set_option maxRecDepth 100000 in
theorem c_X12_isOne (l : Launch) (G : Gt) (σ : Sg) (a1 : Int32) (hI : Inv σ) : Mc l G yX12_isOne cX12_isOne 2 (some .boolean) 1 25 0 0 [.ref (G.1 22 0), .int a1] σ (PI fun r τ => Inv τ ∧ Fr MS_X12_isOne AS_X12_isOne σ τ ∧ IV r 0 1 ∧ ((r.toInt = 1 ∧ 0 ≤ a1.toInt ∧ a1.toInt ≤ 6) ∨ r.toInt = 0)) := by
  refine Mc.of (L0 := [some (.ref (G.1 22 0)), some (.int a1)]) (by decide) (Nat.le_of_ble_eq_true rfl) rfl ?_
  intro p e s m args below meth c C hr hlk
  have C : Cx p s m args c cX12_isOne 2 "LeanTowerModel" := C
  have k0 : (0 : Int32).toInt = 0 := by decide
  have k1 : (1 : Int32).toInt = 1 := by decide
  refine m_iload_n C dX12_isOne_0 rfl rfl ?_
  refine m_i2l C dX12_isOne_1 ?_
  refine m_lconst (v := 0) C dX12_isOne_2 (by decide) ?_
  refine m_aload_n C dX12_isOne_3 rfl rfl ?_
  refine g_22_0 C q4_116 dX12_isOne_4 ?_
  refine m_iconst (v := 2) C dX12_isOne_7 (by decide) ?_
  refine al_23 C kc_2 (by decide) kn_2 dX12_isOne_8 ?_
  refine m_topi (fun x1 ex1 => ?_)
  have b2 : IV x1 0 7 := by rw [ex1]; exact hI.1 23 0 2
  refine m_iconst (v := 1) C dX12_isOne_9 (by decide) ?_
  refine m_isub C dX12_isOne_10 ?_
  refine m_topi (fun x3 ex3 => ?_)
  have tx3 : x3.toInt = x1.toInt - 1 := by rw [ex3, ti_subv b2 kc_1 (by decide), kt_1]
  have b4 : IV x3 (-1) 6 := by rw [ex3]; exact iv_sub b2 kc_1 (by decide)
  refine m_i2l C dX12_isOne_11 ?_
  refine m_callS (n := 3) (st := []) C (c_X12_in l G σ ((a1 : Int32).toInt64) (0) ((x3 : Int32).toInt64) hI ) q4_190 q4_188 q4_189 q1_7 (by decide +kernel) rfl (by decide) (by decide) rfl (Nat.le_of_ble_eq_true rfl) dX12_isOne_12 ?_
  rintro _ τ5 ⟨x8, rfl, i6, f7, b9, h11⟩
  have g10 : Fr MS_X12_isOne AS_X12_isOne σ τ5 := Fr.call (Fr.rf) f7 (by decide)
  have f12 := tl_i a1
  have f13 := kl_0
  have f14 := tl_i x3
  have q15 := b4
  show MW p l e _ s m args below meth c _ 2 G 0 0 15 [some (.ref (G.1 22 0)), some (.int a1)] [.int x8] τ5
  exact m_zret C hr (nar_z b9) hlk (by decide) (by decide) dX12_isOne_15 ⟨_, rfl, i6, g10, b9, (by omega)⟩

abbrev MS_X12_burdenOf : List (Nat × Nat) := []
abbrev AS_X12_burdenOf : List Nat := []
set_option maxHeartbeats 4000000 in
set_option maxRecDepth 100000 in
theorem c_X12_burdenOf (l : Launch) (G : Gt) (σ : Sg) (a1 : Int32) (hI : Inv σ) (ha1 : IV a1 0 6) : Mc l G yX12_burdenOf cX12_burdenOf 3 (some .int) 0 0 0 0 [.ref (G.1 22 0), .int a1] σ (PI fun r τ => Inv τ ∧ Fr MS_X12_burdenOf AS_X12_burdenOf σ τ ∧ IV r (-2147483648) 2147483647) := by
  refine Mc.of (L0 := [some (.ref (G.1 22 0)), some (.int a1), none]) (by decide) (Nat.le_of_ble_eq_true rfl) rfl ?_
  intro p e s m args below meth c C hr hlk
  have C : Cx p s m args c cX12_burdenOf 3 "LeanTowerModel" := C
  have k0 : (0 : Int32).toInt = 0 := by decide
  have k1 : (1 : Int32).toInt = 1 := by decide
  refine m_aload_n C dX12_burdenOf_0 rfl rfl ?_
  refine g_22_0 C q4_116 dX12_burdenOf_1 ?_
  refine m_bipush (v := 10) C dX12_burdenOf_4 (by decide) ?_
  refine m_iload_n C dX12_burdenOf_6 rfl rfl ?_
  refine m_iadd C dX12_burdenOf_7 ?_
  refine m_topi (fun x1 ex1 => ?_)
  have tx1 : x1.toInt = 10 + a1.toInt := by rw [ex1, ti_addv kc_10 ha1 (by decide), kt_10]
  have b2 : IV x1 10 16 := by rw [ex1]; exact iv_add kc_10 ha1 (by decide)
  refine al_23 C b2 (by decide) rfl dX12_burdenOf_8 ?_
  refine m_topi (fun x3 ex3 => ?_)
  refine m_istore_n (L1 := [some (.ref (G.1 22 0)), some (.int a1), some (.int x3)]) C dX12_burdenOf_9 rfl (by decide) rfl rfl ?_
  refine m_aload_n C dX12_burdenOf_10 rfl rfl ?_
  refine g_22_0 C q4_116 dX12_burdenOf_11 ?_
  refine m_iconst (v := 3) C dX12_burdenOf_14 (by decide) ?_
  refine m_iload_n C dX12_burdenOf_15 rfl rfl ?_
  refine m_iadd C dX12_burdenOf_16 ?_
  refine m_topi (fun x4 ex4 => ?_)
  have tx4 : x4.toInt = 3 + a1.toInt := by rw [ex4, ti_addv kc_3 ha1 (by decide), kt_3]
  have b5 : IV x4 3 9 := by rw [ex4]; exact iv_add kc_3 ha1 (by decide)
  refine al_23 C b5 (by decide) rfl dX12_burdenOf_17 ?_
  refine m_topi (fun x6 ex6 => ?_)
  by_cases s7 : x6.toInt < 2 ∨ 5 < x6.toInt
  · refine m_tableOut (tgt := 60) C dX12_burdenOf_18 s7 (by decide) ?_
    refine m_iload_n C dX12_burdenOf_60 rfl rfl ?_
    exact m_iret C hr hlk (by decide) (by decide) dX12_burdenOf_61 ⟨_, rfl, hI, Fr.rf, (iv_any x3)⟩
  by_cases s8 : x6.toInt = 2
  · refine m_tableIn (tgt := 48) (off := 30) C dX12_burdenOf_18 (by omega) (by omega) (by rw [s8]; rfl) (by decide) ?_
    have b9 : IV x6 2 2 := ⟨by omega, by omega⟩
    refine m_iconst (v := 2) C dX12_burdenOf_48 (by decide) ?_
    refine m_iload_n C dX12_burdenOf_49 rfl rfl ?_
    refine m_imul C dX12_burdenOf_50 ?_
    refine m_topi (fun x10 ex10 => ?_)
    exact m_iret C hr hlk (by decide) (by decide) dX12_burdenOf_51 ⟨_, rfl, hI, Fr.rf, (iv_any x10)⟩
  by_cases s11 : x6.toInt = 3
  · refine m_tableIn (tgt := 56) (off := 38) C dX12_burdenOf_18 (by omega) (by omega) (by rw [s11]; rfl) (by decide) ?_
    have b12 : IV x6 3 3 := ⟨by omega, by omega⟩
    refine m_iload_n C dX12_burdenOf_56 rfl rfl ?_
    refine m_iconst (v := 2) C dX12_burdenOf_57 (by decide) ?_
    refine m_idiv C dX12_burdenOf_58 (iv_nz kc_2 (by decide)) ?_
    refine m_topi (fun x13 ex13 => ?_)
    exact m_iret C hr hlk (by decide) (by decide) dX12_burdenOf_59 ⟨_, rfl, hI, Fr.rf, (iv_any x13)⟩
  by_cases s14 : x6.toInt = 4
  · refine m_tableIn (tgt := 60) (off := 42) C dX12_burdenOf_18 (by omega) (by omega) (by rw [s14]; rfl) (by decide) ?_
    have b15 : IV x6 4 4 := ⟨by omega, by omega⟩
    refine m_iload_n C dX12_burdenOf_60 rfl rfl ?_
    exact m_iret C hr hlk (by decide) (by decide) dX12_burdenOf_61 ⟨_, rfl, hI, Fr.rf, (iv_any x3)⟩
  by_cases s16 : x6.toInt = 5
  · refine m_tableIn (tgt := 52) (off := 34) C dX12_burdenOf_18 (by omega) (by omega) (by rw [s16]; rfl) (by decide) ?_
    have b17 : IV x6 5 5 := ⟨by omega, by omega⟩
    refine m_iload_n C dX12_burdenOf_52 rfl rfl ?_
    refine m_iconst (v := 5) C dX12_burdenOf_53 (by decide) ?_
    refine m_iadd C dX12_burdenOf_54 ?_
    refine m_topi (fun x18 ex18 => ?_)
    exact m_iret C hr hlk (by decide) (by decide) dX12_burdenOf_55 ⟨_, rfl, hI, Fr.rf, (iv_any x18)⟩
  exact absurd s7 (by omega)

abbrev MS_X12_sideOf : List (Nat × Nat) := []
abbrev AS_X12_sideOf : List Nat := []
set_option maxHeartbeats 4000000 in
set_option maxRecDepth 100000 in
theorem c_X12_sideOf (l : Launch) (G : Gt) (σ : Sg) (a1 : Int32) (hI : Inv σ) : Mc l G yX12_sideOf cX12_sideOf 2 (some .int) 0 0 0 0 [.ref (G.1 22 0), .int a1] σ (PI fun r τ => Inv τ ∧ Fr MS_X12_sideOf AS_X12_sideOf σ τ ∧ IV r (-1) 3) := by
  refine Mc.of (L0 := [some (.ref (G.1 22 0)), some (.int a1)]) (by decide) (Nat.le_of_ble_eq_true rfl) rfl ?_
  intro p e s m args below meth c C hr hlk
  have C : Cx p s m args c cX12_sideOf 2 "LeanTowerModel" := C
  have k0 : (0 : Int32).toInt = 0 := by decide
  have k1 : (1 : Int32).toInt = 1 := by decide
  refine m_iload_n C dX12_sideOf_0 rfl rfl ?_
  refine m_if_lt (tgt := 16) C dX12_sideOf_1 (by decide) (fun c1 => ?_) (fun c1 => ?_)
  · have f2 : a1.toInt < 0 := by
      have q : _ := c1
      simp only [ti_nle, ti_nlt, ti_le, ti_lt, ti_eq, ti_ne, Classical.not_not, kt_0] at q
      omega
    have b3 : IV a1 (-2147483648) (-1) := ⟨by have q1 := (iv_any a1); have q2 := kc_0; omega, by have q1 := (iv_any a1); have q2 := kc_0; omega⟩
    refine m_iconst (v := (-1)) C dX12_sideOf_16 (by decide) ?_
    refine m_goto (tgt := 23) C dX12_sideOf_17 (by decide) ?_
    exact m_iret C hr hlk (by decide) (by decide) dX12_sideOf_23 ⟨_, rfl, hI, Fr.rf, (iv_wk kc_m1 (by decide))⟩
  · have f4 : 0 ≤ a1.toInt := by
      have q : _ := c1
      simp only [ti_nle, ti_nlt, ti_le, ti_lt, ti_eq, ti_ne, Classical.not_not, kt_0] at q
      omega
    have b5 : IV a1 0 2147483647 := ⟨by have q1 := kc_0; have q2 := (iv_any a1); omega, by have q1 := kc_0; have q2 := (iv_any a1); omega⟩
    refine m_iload_n C dX12_sideOf_4 rfl rfl ?_
    refine m_aload_n C dX12_sideOf_5 rfl rfl ?_
    refine g_22_0 C q4_116 dX12_sideOf_6 ?_
    refine m_iconst (v := 0) C dX12_sideOf_9 (by decide) ?_
    refine al_23 C kc_0 (by decide) kn_0 dX12_sideOf_10 ?_
    refine m_topi (fun x6 ex6 => ?_)
    refine m_iconst (v := 1) C dX12_sideOf_11 (by decide) ?_
    refine m_isub C dX12_sideOf_12 ?_
    refine m_topi (fun x7 ex7 => ?_)
    refine m_icmp_ne (tgt := 20) C dX12_sideOf_13 (by decide) (fun c8 => ?_) (fun c8 => ?_)
    · have f9 : a1.toInt ≠ x7.toInt := by
        have q : _ := c8
        simp only [ti_nle, ti_nlt, ti_le, ti_lt, ti_eq, ti_ne, Classical.not_not] at q
        omega
      refine m_iload_n C dX12_sideOf_20 rfl rfl ?_
      refine m_iconst (v := 4) C dX12_sideOf_21 (by decide) ?_
      refine m_irem C dX12_sideOf_22 (iv_nz kc_4 (by decide)) ?_
      refine m_topi (fun x10 ex10 => ?_)
      have b11 : IV x10 0 3 := by rw [ex10]; exact iv_rem b5 kc_4 (by decide)
      exact m_iret C hr hlk (by decide) (by decide) dX12_sideOf_23 ⟨_, rfl, hI, Fr.rf, (iv_wk b11 (by decide))⟩
    · have f12 : a1.toInt = x7.toInt := by
        have q : _ := c8
        simp only [ti_nle, ti_nlt, ti_le, ti_lt, ti_eq, ti_ne, Classical.not_not] at q
        omega
      have b13 : IV x7 0 2147483647 := ⟨by have q1 := b5; have q2 := (iv_any x7); omega, by have q1 := b5; have q2 := (iv_any x7); omega⟩
      refine m_iconst (v := (-1)) C dX12_sideOf_16 (by decide) ?_
      refine m_goto (tgt := 23) C dX12_sideOf_17 (by decide) ?_
      exact m_iret C hr hlk (by decide) (by decide) dX12_sideOf_23 ⟨_, rfl, hI, Fr.rf, (iv_wk kc_m1 (by decide))⟩

abbrev MS_X12_pull : List (Nat × Nat) := []
abbrev AS_X12_pull : List Nat := []
set_option maxHeartbeats 4000000 in
set_option maxRecDepth 100000 in
theorem c_X12_pull (l : Launch) (G : Gt) (σ : Sg) (a1 : Int32) (a2 : Int32) (hI : Inv σ) : Mc l G yX12_pull cX12_pull 2 (some .int) 0 0 0 0 [.int a1, .int a2] σ (PI fun r τ => Inv τ ∧ Fr MS_X12_pull AS_X12_pull σ τ ∧ IV r (-1) 1) := by
  refine Mc.of (L0 := [some (.int a1), some (.int a2)]) (by decide) (Nat.le_of_ble_eq_true rfl) rfl ?_
  intro p e s m args below meth c C hr hlk
  have C : Cx p s m args c cX12_pull 2 "LeanTowerModel" := C
  have k0 : (0 : Int32).toInt = 0 := by decide
  have k1 : (1 : Int32).toInt = 1 := by decide
  have J15 : ∀ (τ : Sg) (z0 : Int32), Inv τ → Fr MS_X12_pull AS_X12_pull σ τ → IV a1 0 2147483647 → IV a2 (-2147483648) 2147483647 → IV z0 0 1 → MW p l e { frames := 0, cells := 0, slots := 0, locals := 0 } s m args below meth c (MQ below (QP G (PI fun r τ => Inv τ ∧ Fr MS_X12_pull AS_X12_pull σ τ ∧ IV r (-1) 1)) args s 0 0 (aG G)) 2 G 0 0 15 [some (.int a1), some (.int a2)] [.int z0] τ := by
    intro τ z0 iτ fτ b_a1 b_a2 b_z0
    refine m_iload_n C dX12_pull_15 rfl rfl ?_
    refine m_icmp_eq (tgt := 23) C dX12_pull_16 (by decide) (fun c1 => ?_) (fun c1 => ?_)
    · have f2 : z0.toInt = a2.toInt := by
        have q : _ := c1
        simp only [ti_nle, ti_nlt, ti_le, ti_lt, ti_eq, ti_ne, Classical.not_not] at q
        omega
      have b3 : IV a2 0 1 := ⟨by have q1 := b_z0; have q2 := b_a2; omega, by have q1 := b_z0; have q2 := b_a2; omega⟩
      refine m_iload_n C dX12_pull_23 rfl rfl ?_
      refine m_iconst (v := 2) C dX12_pull_24 (by decide) ?_
      refine m_icmp_ge (tgt := 32) C dX12_pull_25 (by decide) (fun c4 => ?_) (fun c4 => ?_)
      · have f5 : 2 ≤ a1.toInt := by
          have q : _ := c4
          simp only [ti_nle, ti_nlt, ti_le, ti_lt, ti_eq, ti_ne, Classical.not_not, kt_2] at q
          omega
        have b6 : IV a1 2 2147483647 := ⟨by have q1 := kc_2; have q2 := b_a1; omega, by have q1 := kc_2; have q2 := b_a1; omega⟩
        refine m_iconst (v := (-1)) C dX12_pull_32 (by decide) ?_
        exact m_iret C hr hlk (by decide) (by decide) dX12_pull_33 ⟨_, rfl, iτ, fτ, (iv_wk kc_m1 (by decide))⟩
      · have f7 : a1.toInt < 2 := by
          have q : _ := c4
          simp only [ti_nle, ti_nlt, ti_le, ti_lt, ti_eq, ti_ne, Classical.not_not, kt_2] at q
          omega
        have b8 : IV a1 0 1 := ⟨by have q1 := b_a1; have q2 := kc_2; omega, by have q1 := b_a1; have q2 := kc_2; omega⟩
        refine m_iconst (v := 1) C dX12_pull_28 (by decide) ?_
        refine m_goto (tgt := 33) C dX12_pull_29 (by decide) ?_
        exact m_iret C hr hlk (by decide) (by decide) dX12_pull_33 ⟨_, rfl, iτ, fτ, (iv_wk kc_1 (by decide))⟩
    · have f9 : z0.toInt ≠ a2.toInt := by
        have q : _ := c1
        simp only [ti_nle, ti_nlt, ti_le, ti_lt, ti_eq, ti_ne, Classical.not_not] at q
        omega
      refine m_iconst (v := 0) C dX12_pull_19 (by decide) ?_
      refine m_goto (tgt := 33) C dX12_pull_20 (by decide) ?_
      exact m_iret C hr hlk (by decide) (by decide) dX12_pull_33 ⟨_, rfl, iτ, fτ, (iv_wk kc_0 (by decide))⟩
  refine m_iload_n C dX12_pull_0 rfl rfl ?_
  refine m_if_lt (tgt := 19) C dX12_pull_1 (by decide) (fun c10 => ?_) (fun c10 => ?_)
  · have f11 : a1.toInt < 0 := by
      have q : _ := c10
      simp only [ti_nle, ti_nlt, ti_le, ti_lt, ti_eq, ti_ne, Classical.not_not, kt_0] at q
      omega
    have b12 : IV a1 (-2147483648) (-1) := ⟨by have q1 := (iv_any a1); have q2 := kc_0; omega, by have q1 := (iv_any a1); have q2 := kc_0; omega⟩
    refine m_iconst (v := 0) C dX12_pull_19 (by decide) ?_
    refine m_goto (tgt := 33) C dX12_pull_20 (by decide) ?_
    exact m_iret C hr hlk (by decide) (by decide) dX12_pull_33 ⟨_, rfl, hI, Fr.rf, (iv_wk kc_0 (by decide))⟩
  · have f13 : 0 ≤ a1.toInt := by
      have q : _ := c10
      simp only [ti_nle, ti_nlt, ti_le, ti_lt, ti_eq, ti_ne, Classical.not_not, kt_0] at q
      omega
    have b14 : IV a1 0 2147483647 := ⟨by have q1 := kc_0; have q2 := (iv_any a1); omega, by have q1 := kc_0; have q2 := (iv_any a1); omega⟩
    refine m_iload_n C dX12_pull_4 rfl rfl ?_
    refine m_iconst (v := 2) C dX12_pull_5 (by decide) ?_
    refine m_irem C dX12_pull_6 (iv_nz kc_2 (by decide)) ?_
    refine m_topi (fun x15 ex15 => ?_)
    have b16 : IV x15 0 1 := by rw [ex15]; exact iv_rem b14 kc_2 (by decide)
    refine m_if_ne (tgt := 14) C dX12_pull_7 (by decide) (fun c17 => ?_) (fun c17 => ?_)
    · have f18 : x15.toInt ≠ 0 := by
        have q : _ := c17
        simp only [ti_nle, ti_nlt, ti_le, ti_lt, ti_eq, ti_ne, Classical.not_not, kt_0] at q
        omega
      have b19 : IV x15 1 1 := ⟨by have q1 := b16; have q2 := kc_0; omega, by have q1 := b16; have q2 := kc_0; omega⟩
      refine m_iconst (v := 0) C dX12_pull_14 (by decide) ?_
      exact J15 σ 0 hI Fr.rf b14 (iv_any a2) (iv_wk kc_0 (by decide))
    · have f20 : x15.toInt = 0 := by
        have q : _ := c17
        simp only [ti_nle, ti_nlt, ti_le, ti_lt, ti_eq, ti_ne, Classical.not_not, kt_0] at q
        omega
      have b21 : IV x15 0 0 := ⟨by have q1 := b16; have q2 := kc_0; omega, by have q1 := b16; have q2 := kc_0; omega⟩
      refine m_iconst (v := 1) C dX12_pull_10 (by decide) ?_
      refine m_goto (tgt := 15) C dX12_pull_11 (by decide) ?_
      exact J15 σ 1 hI Fr.rf b14 (iv_any a2) (iv_wk kc_1 (by decide))

abbrev MS_X12_leanOf : List (Nat × Nat) := []
abbrev AS_X12_leanOf : List Nat := []
set_option maxHeartbeats 4000000 in
set_option maxRecDepth 100000 in
theorem c_X12_leanOf (l : Launch) (G : Gt) (σ : Sg) (a1 : Int32) (a2 : Int32) (hI : Inv σ) (ha1 : IV a1 0 200) (hr0 : (a1.toInt = 0 ∨ a1.toInt = 200)) : Mc l G yX12_leanOf cX12_leanOf 5 (some .int) 1 22 0 0 [.ref (G.1 22 0), .int a1, .int a2] σ (PI fun r τ => Inv τ ∧ Fr MS_X12_leanOf AS_X12_leanOf σ τ ∧ IV r (-2147483648) 2147483647) := by
  refine Mc.of (L0 := [some (.ref (G.1 22 0)), some (.int a1), some (.int a2), none, none]) (by decide) (Nat.le_of_ble_eq_true rfl) rfl ?_
  intro p e s m args below meth c C hr hlk
  have C : Cx p s m args c cX12_leanOf 5 "LeanTowerModel" := C
  have k0 : (0 : Int32).toInt = 0 := by decide
  have k1 : (1 : Int32).toInt = 1 := by decide
  have J72 : ∀ (n : Nat) (τ : Sg) (y3 : Int32) (y4 : Int32), Inv τ → Fr MS_X12_leanOf AS_X12_leanOf σ τ → IV a1 0 200 → IV a2 (-2147483648) 2147483647 → IV y3 (-2147483648) 2147483647 → IV y4 0 4 → (4 - y4.toInt).toNat < n → MW p l e { frames := 1, cells := 0, slots := 0, locals := 22 } s m args below meth c (MQ below (QP G (PI fun r τ => Inv τ ∧ Fr MS_X12_leanOf AS_X12_leanOf σ τ ∧ IV r (-2147483648) 2147483647)) args s 0 0 (aG G)) 5 G 0 0 72 [some (.ref (G.1 22 0)), some (.int a1), some (.int a2), some (.int y3), some (.int y4)] [] τ := by
    intro n
    induction n with
    | zero => intro τ y3 y4 iτ fτ b_a1 b_a2 b_y3 b_y4 hm; exact absurd hm (Nat.not_lt_zero _)
    | succ n ih72 =>
      intro τ y3 y4 iτ fτ b_a1 b_a2 b_y3 b_y4 hm72
      refine m_iload C dX12_leanOf_72 rfl ?_
      refine m_aload_n C dX12_leanOf_74 rfl rfl ?_
      refine g_22_0 C q4_116 dX12_leanOf_75 ?_
      refine m_bipush (v := 38) C dX12_leanOf_78 (by decide) ?_
      refine al_23 C kc_38 (by decide) kn_38 dX12_leanOf_80 ?_
      refine m_topi (fun x1 ex1 => ?_)
      have b2 : IV x1 0 4 := by rw [ex1]; exact iτ.1 23 0 38
      refine m_icmp_ge (tgt := 120) C dX12_leanOf_81 (by decide) (fun c3 => ?_) (fun c3 => ?_)
      · have f4 : x1.toInt ≤ y4.toInt := by
          have q : _ := c3
          simp only [ti_nle, ti_nlt, ti_le, ti_lt, ti_eq, ti_ne, Classical.not_not] at q
          omega
        refine m_iload_n C dX12_leanOf_120 rfl rfl ?_
        exact m_iret C hr hlk (by decide) (by decide) dX12_leanOf_121 ⟨_, rfl, iτ, fτ, b_y3⟩
      · have f5 : y4.toInt < x1.toInt := by
          have q : _ := c3
          simp only [ti_nle, ti_nlt, ti_le, ti_lt, ti_eq, ti_ne, Classical.not_not] at q
          omega
        have b6 : IV y4 0 3 := ⟨by have q1 := b_y4; have q2 := b2; omega, by have q1 := b_y4; have q2 := b2; omega⟩
        have b7 : IV x1 1 4 := ⟨by have q1 := b_y4; have q2 := b2; omega, by have q1 := b_y4; have q2 := b2; omega⟩
        refine m_iload_n C dX12_leanOf_84 rfl rfl ?_
        refine m_aload_n C dX12_leanOf_85 rfl rfl ?_
        refine g_22_0 C q4_116 dX12_leanOf_86 ?_
        refine m_bipush (v := 39) C dX12_leanOf_89 (by decide) ?_
        refine m_iload C dX12_leanOf_91 rfl ?_
        refine m_iadd C dX12_leanOf_93 ?_
        refine m_topi (fun x8 ex8 => ?_)
        have tx8 : x8.toInt = 39 + y4.toInt := by rw [ex8, ti_addv kc_39 b6 (by decide), kt_39]
        have b9 : IV x8 39 42 := by rw [ex8]; exact iv_add kc_39 b6 (by decide)
        refine al_23 C b9 (by decide) rfl dX12_leanOf_94 ?_
        refine m_topi (fun x10 ex10 => ?_)
        refine m_aload_n C dX12_leanOf_95 rfl rfl ?_
        refine g_22_0 C q4_116 dX12_leanOf_96 ?_
        refine m_iload_n C dX12_leanOf_99 rfl rfl ?_
        refine m_bipush (v := 43) C dX12_leanOf_100 (by decide) ?_
        refine m_iadd C dX12_leanOf_102 ?_
        refine m_topi (fun x11 ex11 => ?_)
        have tx11 : x11.toInt = a1.toInt + 43 := by rw [ex11, ti_addv b_a1 kc_43 (by decide), kt_43]
        have b12 : IV x11 43 243 := by rw [ex11]; exact iv_add b_a1 kc_43 (by decide)
        refine m_iload C dX12_leanOf_103 rfl ?_
        refine m_iadd C dX12_leanOf_105 ?_
        refine m_topi (fun x13 ex13 => ?_)
        have tx13 : x13.toInt = x11.toInt + y4.toInt := by rw [ex13, ti_addv b12 b6 (by decide)]
        have b14 : IV x13 43 246 := by rw [ex13]; exact iv_add b12 b6 (by decide)
        refine al_23 C b14 (by decide) rfl dX12_leanOf_106 ?_
        refine m_topi (fun x15 ex15 => ?_)
        refine m_iload_n C dX12_leanOf_107 rfl rfl ?_
        refine m_callS (n := 2) (st := [.int x10, .int y3]) C (c_X12_pull l G τ (x15) (a2) iτ ) q5_93 q5_91 q5_92 q1_7 (by decide +kernel) rfl (by decide) (by decide) rfl (Nat.le_of_ble_eq_true rfl) dX12_leanOf_108 ?_
        rintro _ τ16 ⟨x19, rfl, i17, f18, b20⟩
        have g21 : Fr MS_X12_leanOf AS_X12_leanOf σ τ16 := Fr.call (fτ) f18 (by decide)
        show MW p l e _ s m args below meth c _ 5 G 0 0 111 [some (.ref (G.1 22 0)), some (.int a1), some (.int a2), some (.int y3), some (.int y4)] [.int x19, .int x10, .int y3] τ16
        refine m_imul C dX12_leanOf_111 ?_
        refine m_topi (fun x23 ex23 => ?_)
        refine m_iadd C dX12_leanOf_112 ?_
        refine m_topi (fun x24 ex24 => ?_)
        refine m_istore_n (L1 := [some (.ref (G.1 22 0)), some (.int a1), some (.int a2), some (.int x24), some (.int y4)]) C dX12_leanOf_113 rfl (by decide) rfl rfl ?_
        obtain ⟨x25, ex25⟩ : ∃ y : Int32, y = y4 + 1 := ⟨_, rfl⟩
        have tx25 : x25.toInt = y4.toInt + 1 := by rw [ex25, ti_addv b6 kc_1 (by decide), kt_1]
        have b26 : IV x25 1 4 := by rw [ex25]; exact iv_add b6 kc_1 (by decide)
        refine m_iinc (v := x25) (L1 := [some (.ref (G.1 22 0)), some (.int a1), some (.int a2), some (.int x24), some (.int x25)]) C dX12_leanOf_114 rfl (by rw [ex25]; rfl) (by decide) rfl rfl ?_
        refine m_goto (tgt := 72) C dX12_leanOf_117 (by decide) ?_
        exact ih72 τ16 x24 x25 i17 g21 b_a1 b_a2 (iv_any x24) (iv_wk b26 (by decide)) (by have q := hm72; omega)
  have J22 : ∀ (n : Nat) (τ : Sg) (y3 : Int32) (y4 : Int32), Inv τ → Fr MS_X12_leanOf AS_X12_leanOf σ τ → IV a1 0 200 → IV a2 (-2147483648) 2147483647 → IV y3 (-2147483648) 2147483647 → IV y4 0 7 → (7 - y4.toInt).toNat < n → MW p l e { frames := 1, cells := 0, slots := 0, locals := 22 } s m args below meth c (MQ below (QP G (PI fun r τ => Inv τ ∧ Fr MS_X12_leanOf AS_X12_leanOf σ τ ∧ IV r (-2147483648) 2147483647)) args s 0 0 (aG G)) 5 G 0 0 22 [some (.ref (G.1 22 0)), some (.int a1), some (.int a2), some (.int y3), some (.int y4)] [] τ := by
    intro n
    induction n with
    | zero => intro τ y3 y4 iτ fτ b_a1 b_a2 b_y3 b_y4 hm; exact absurd hm (Nat.not_lt_zero _)
    | succ n ih22 =>
      intro τ y3 y4 iτ fτ b_a1 b_a2 b_y3 b_y4 hm22
      refine m_iload C dX12_leanOf_22 rfl ?_
      refine m_aload_n C dX12_leanOf_24 rfl rfl ?_
      refine g_22_0 C q4_116 dX12_leanOf_25 ?_
      refine m_iconst (v := 2) C dX12_leanOf_28 (by decide) ?_
      refine al_23 C kc_2 (by decide) kn_2 dX12_leanOf_29 ?_
      refine m_topi (fun x27 ex27 => ?_)
      have b28 : IV x27 0 7 := by rw [ex27]; exact iτ.1 23 0 2
      refine m_icmp_ge (tgt := 69) C dX12_leanOf_30 (by decide) (fun c29 => ?_) (fun c29 => ?_)
      · have f30 : x27.toInt ≤ y4.toInt := by
          have q : _ := c29
          simp only [ti_nle, ti_nlt, ti_le, ti_lt, ti_eq, ti_ne, Classical.not_not] at q
          omega
        refine m_iconst (v := 0) C dX12_leanOf_69 (by decide) ?_
        refine m_istore (L1 := [some (.ref (G.1 22 0)), some (.int a1), some (.int a2), some (.int y3), some (.int 0)]) C dX12_leanOf_70 (by decide) rfl rfl ?_
        exact J72 ((4 - (0 : Int32).toInt).toNat + 1) τ y3 0 iτ fτ b_a1 b_a2 b_y3 (iv_wk kc_0 (by decide)) (Nat.lt_succ_self _)
      · have f31 : y4.toInt < x27.toInt := by
          have q : _ := c29
          simp only [ti_nle, ti_nlt, ti_le, ti_lt, ti_eq, ti_ne, Classical.not_not] at q
          omega
        have b32 : IV y4 0 6 := ⟨by have q1 := b_y4; have q2 := b28; omega, by have q1 := b_y4; have q2 := b28; omega⟩
        have b33 : IV x27 1 7 := ⟨by have q1 := b_y4; have q2 := b28; omega, by have q1 := b_y4; have q2 := b28; omega⟩
        refine m_iload_n C dX12_leanOf_33 rfl rfl ?_
        refine m_aload_n C dX12_leanOf_34 rfl rfl ?_
        refine m_iload C dX12_leanOf_35 rfl ?_
        refine m_callV (n := 1) (ci := 11) (st := [.int y3]) C (c_X12_burdenOf l G τ (y4) iτ b32) (by decide) (by decide) rfl rfl rfl q5_86 q5_83 q5_85 q0_42 q1_7 (by decide +kernel) rfl (by decide) (by decide) rfl (Nat.le_of_ble_eq_true rfl) dX12_leanOf_37 ?_
        rintro _ τ34 ⟨x37, rfl, i35, f36, b38⟩
        have g39 : Fr MS_X12_leanOf AS_X12_leanOf σ τ34 := Fr.call (fτ) f36 (by decide)
        show MW p l e _ s m args below meth c _ 5 G 0 0 40 [some (.ref (G.1 22 0)), some (.int a1), some (.int a2), some (.int y3), some (.int y4)] [.int x37, .int y3] τ34
        refine m_aload_n C dX12_leanOf_40 rfl rfl ?_
        refine m_aload_n C dX12_leanOf_41 rfl rfl ?_
        refine g_22_0 C q4_116 dX12_leanOf_42 ?_
        refine m_iload_n C dX12_leanOf_45 rfl rfl ?_
        refine m_bipush (v := 24) C dX12_leanOf_46 (by decide) ?_
        refine m_iadd C dX12_leanOf_48 ?_
        refine m_topi (fun x41 ex41 => ?_)
        have tx41 : x41.toInt = a1.toInt + 24 := by rw [ex41, ti_addv b_a1 kc_24 (by decide), kt_24]
        have b42 : IV x41 24 224 := by rw [ex41]; exact iv_add b_a1 kc_24 (by decide)
        refine m_iload C dX12_leanOf_49 rfl ?_
        refine m_iadd C dX12_leanOf_51 ?_
        refine m_topi (fun x43 ex43 => ?_)
        have tx43 : x43.toInt = x41.toInt + y4.toInt := by rw [ex43, ti_addv b42 b32 (by decide)]
        have b44 : IV x43 24 230 := by rw [ex43]; exact iv_add b42 b32 (by decide)
        refine al_23 C b44 (by decide) rfl dX12_leanOf_52 ?_
        refine m_topi (fun x45 ex45 => ?_)
        refine m_callV (n := 1) (ci := 11) (st := [.int x37, .int y3]) C (c_X12_sideOf l G τ34 (x45) i35 ) (by decide) (by decide) rfl rfl rfl q5_90 q5_87 q5_89 q0_43 q1_7 (by decide +kernel) rfl (by decide) (by decide) rfl (Nat.le_of_ble_eq_true rfl) dX12_leanOf_53 ?_
        rintro _ τ46 ⟨x49, rfl, i47, f48, b50⟩
        have g51 : Fr MS_X12_leanOf AS_X12_leanOf σ τ46 := Fr.call (g39) f48 (by decide)
        show MW p l e _ s m args below meth c _ 5 G 0 0 56 [some (.ref (G.1 22 0)), some (.int a1), some (.int a2), some (.int y3), some (.int y4)] [.int x49, .int x37, .int y3] τ46
        refine m_iload_n C dX12_leanOf_56 rfl rfl ?_
        refine m_callS (n := 2) (st := [.int x37, .int y3]) C (c_X12_pull l G τ46 (x49) (a2) i47 ) q5_93 q5_91 q5_92 q1_7 (by decide +kernel) rfl (by decide) (by decide) rfl (Nat.le_of_ble_eq_true rfl) dX12_leanOf_57 ?_
        rintro _ τ53 ⟨x56, rfl, i54, f55, b57⟩
        have g58 : Fr MS_X12_leanOf AS_X12_leanOf σ τ53 := Fr.call (g51) f55 (by decide)
        show MW p l e _ s m args below meth c _ 5 G 0 0 60 [some (.ref (G.1 22 0)), some (.int a1), some (.int a2), some (.int y3), some (.int y4)] [.int x56, .int x37, .int y3] τ53
        refine m_imul C dX12_leanOf_60 ?_
        refine m_topi (fun x60 ex60 => ?_)
        refine m_iadd C dX12_leanOf_61 ?_
        refine m_topi (fun x61 ex61 => ?_)
        refine m_istore_n (L1 := [some (.ref (G.1 22 0)), some (.int a1), some (.int a2), some (.int x61), some (.int y4)]) C dX12_leanOf_62 rfl (by decide) rfl rfl ?_
        obtain ⟨x62, ex62⟩ : ∃ y : Int32, y = y4 + 1 := ⟨_, rfl⟩
        have tx62 : x62.toInt = y4.toInt + 1 := by rw [ex62, ti_addv b32 kc_1 (by decide), kt_1]
        have b63 : IV x62 1 7 := by rw [ex62]; exact iv_add b32 kc_1 (by decide)
        refine m_iinc (v := x62) (L1 := [some (.ref (G.1 22 0)), some (.int a1), some (.int a2), some (.int x61), some (.int x62)]) C dX12_leanOf_63 rfl (by rw [ex62]; rfl) (by decide) rfl rfl ?_
        refine m_goto (tgt := 22) C dX12_leanOf_66 (by decide) ?_
        exact ih22 τ53 x61 x62 i54 g58 b_a1 b_a2 (iv_any x61) (iv_wk b63 (by decide)) (by have q := hm22; omega)
  refine m_aload_n C dX12_leanOf_0 rfl rfl ?_
  refine g_22_0 C q4_116 dX12_leanOf_1 ?_
  refine m_iload_n C dX12_leanOf_4 rfl rfl ?_
  refine m_iload_n C dX12_leanOf_5 rfl rfl ?_
  refine m_if_eq (tgt := 14) C dX12_leanOf_6 (by decide) (fun c64 => ?_) (fun c64 => ?_)
  · have f65 : a2.toInt = 0 := by
      have q : _ := c64
      simp only [ti_nle, ti_nlt, ti_le, ti_lt, ti_eq, ti_ne, Classical.not_not, kt_0] at q
      omega
    have b66 : IV a2 0 0 := ⟨by have q1 := (iv_any a2); have q2 := kc_0; omega, by have q1 := (iv_any a2); have q2 := kc_0; omega⟩
    refine m_bipush (v := 49) C dX12_leanOf_14 (by decide) ?_
    refine m_iadd C dX12_leanOf_16 ?_
    refine m_topi (fun x67 ex67 => ?_)
    have tx67 : x67.toInt = a1.toInt + 49 := by rw [ex67, ti_addv ha1 kc_49 (by decide), kt_49]
    have b68 : IV x67 49 249 := by rw [ex67]; exact iv_add ha1 kc_49 (by decide)
    refine al_23 C b68 (by decide) rfl dX12_leanOf_17 ?_
    refine m_topi (fun x69 ex69 => ?_)
    refine m_istore_n (L1 := [some (.ref (G.1 22 0)), some (.int a1), some (.int a2), some (.int x69), none]) C dX12_leanOf_18 rfl (by decide) rfl rfl ?_
    refine m_iconst (v := 0) C dX12_leanOf_19 (by decide) ?_
    refine m_istore (L1 := [some (.ref (G.1 22 0)), some (.int a1), some (.int a2), some (.int x69), some (.int 0)]) C dX12_leanOf_20 (by decide) rfl rfl ?_
    exact J22 ((7 - (0 : Int32).toInt).toNat + 1) σ x69 0 hI Fr.rf ha1 (iv_wk b66 (by decide)) (iv_any x69) (iv_wk kc_0 (by decide)) (Nat.lt_succ_self _)
  · have f70 : a2.toInt ≠ 0 := by
      have q : _ := c64
      simp only [ti_nle, ti_nlt, ti_le, ti_lt, ti_eq, ti_ne, Classical.not_not, kt_0] at q
      omega
    refine m_bipush (v := 48) C dX12_leanOf_9 (by decide) ?_
    refine m_goto (tgt := 16) C dX12_leanOf_11 (by decide) ?_
    refine m_iadd C dX12_leanOf_16 ?_
    refine m_topi (fun x71 ex71 => ?_)
    have tx71 : x71.toInt = a1.toInt + 48 := by rw [ex71, ti_addv ha1 kc_48 (by decide), kt_48]
    have b72 : IV x71 48 248 := by rw [ex71]; exact iv_add ha1 kc_48 (by decide)
    refine al_23 C b72 (by decide) rfl dX12_leanOf_17 ?_
    refine m_topi (fun x73 ex73 => ?_)
    refine m_istore_n (L1 := [some (.ref (G.1 22 0)), some (.int a1), some (.int a2), some (.int x73), none]) C dX12_leanOf_18 rfl (by decide) rfl rfl ?_
    refine m_iconst (v := 0) C dX12_leanOf_19 (by decide) ?_
    refine m_istore (L1 := [some (.ref (G.1 22 0)), some (.int a1), some (.int a2), some (.int x73), some (.int 0)]) C dX12_leanOf_20 (by decide) rfl rfl ?_
    exact J22 ((7 - (0 : Int32).toInt).toNat + 1) σ x73 0 hI Fr.rf ha1 (iv_any a2) (iv_any x73) (iv_wk kc_0 (by decide)) (Nat.lt_succ_self _)

abbrev MS_X12_worstOf : List (Nat × Nat) := []
abbrev AS_X12_worstOf : List Nat := []
set_option maxHeartbeats 4000000 in
set_option maxRecDepth 100000 in
theorem c_X12_worstOf (l : Launch) (G : Gt) (σ : Sg) (a1 : Int32) (hI : Inv σ) (ha1 : IV a1 0 200) (hr0 : (a1.toInt = 0 ∨ a1.toInt = 200)) : Mc l G yX12_worstOf cX12_worstOf 2 (some .int) 2 46 0 0 [.ref (G.1 22 0), .int a1] σ (PI fun r τ => Inv τ ∧ Fr MS_X12_worstOf AS_X12_worstOf σ τ ∧ IV r (-2147483648) 2147483647) := by
  refine Mc.of (L0 := [some (.ref (G.1 22 0)), some (.int a1)]) (by decide) (Nat.le_of_ble_eq_true rfl) rfl ?_
  intro p e s m args below meth c C hr hlk
  have C : Cx p s m args c cX12_worstOf 2 "LeanTowerModel" := C
  have k0 : (0 : Int32).toInt = 0 := by decide
  have k1 : (1 : Int32).toInt = 1 := by decide
  refine m_aload_n C dX12_worstOf_0 rfl rfl ?_
  refine m_iload_n C dX12_worstOf_1 rfl rfl ?_
  refine m_iconst (v := 1) C dX12_worstOf_2 (by decide) ?_
  have q1 := kt_1
  refine m_callV (n := 2) (ci := 11) (st := []) C (c_X12_leanOf l G σ (a1) (1) hI ha1 (by omega)) (by decide) (by decide) rfl rfl rfl q5_82 q5_79 q5_81 q0_41 q1_7 (by decide +kernel) rfl (by decide) (by decide) rfl (Nat.le_of_ble_eq_true rfl) dX12_worstOf_3 ?_
  rintro _ τ2 ⟨x5, rfl, i3, f4, b6⟩
  have g7 : Fr MS_X12_worstOf AS_X12_worstOf σ τ2 := Fr.call (Fr.rf) f4 (by decide)
  show MW p l e _ s m args below meth c _ 2 G 0 0 6 [some (.ref (G.1 22 0)), some (.int a1)] [.int x5] τ2
  refine m_callS (n := 1) (st := []) C (c_X12_sizeOf l G τ2 (x5) i3 ) q5_96 q5_94 q5_95 q1_7 (by decide +kernel) rfl (by decide) (by decide) rfl (Nat.le_of_ble_eq_true rfl) dX12_worstOf_6 ?_
  rintro _ τ9 ⟨x12, rfl, i10, f11, b13⟩
  have g14 : Fr MS_X12_worstOf AS_X12_worstOf σ τ9 := Fr.call (g7) f11 (by decide)
  show MW p l e _ s m args below meth c _ 2 G 0 0 9 [some (.ref (G.1 22 0)), some (.int a1)] [.int x12] τ9
  refine m_aload_n C dX12_worstOf_9 rfl rfl ?_
  refine m_iload_n C dX12_worstOf_10 rfl rfl ?_
  refine m_iconst (v := 0) C dX12_worstOf_11 (by decide) ?_
  have q16 := kt_0
  refine m_callV (n := 2) (ci := 11) (st := [.int x12]) C (c_X12_leanOf l G τ9 (a1) (0) i10 ha1 (by omega)) (by decide) (by decide) rfl rfl rfl q5_82 q5_79 q5_81 q0_41 q1_7 (by decide +kernel) rfl (by decide) (by decide) rfl (Nat.le_of_ble_eq_true rfl) dX12_worstOf_12 ?_
  rintro _ τ17 ⟨x20, rfl, i18, f19, b21⟩
  have g22 : Fr MS_X12_worstOf AS_X12_worstOf σ τ17 := Fr.call (g14) f19 (by decide)
  show MW p l e _ s m args below meth c _ 2 G 0 0 15 [some (.ref (G.1 22 0)), some (.int a1)] [.int x20, .int x12] τ17
  refine m_callS (n := 1) (st := [.int x12]) C (c_X12_sizeOf l G τ17 (x20) i18 ) q5_96 q5_94 q5_95 q1_7 (by decide +kernel) rfl (by decide) (by decide) rfl (Nat.le_of_ble_eq_true rfl) dX12_worstOf_15 ?_
  rintro _ τ24 ⟨x27, rfl, i25, f26, b28⟩
  have g29 : Fr MS_X12_worstOf AS_X12_worstOf σ τ24 := Fr.call (g22) f26 (by decide)
  show MW p l e _ s m args below meth c _ 2 G 0 0 18 [some (.ref (G.1 22 0)), some (.int a1)] [.int x27, .int x12] τ24
  refine m_callS (n := 2) (st := []) C (c_X12_greater l G τ24 (x12) (x27) i25 ) q5_99 q5_97 q5_98 q1_7 (by decide +kernel) rfl (by decide) (by decide) rfl (Nat.le_of_ble_eq_true rfl) dX12_worstOf_18 ?_
  rintro _ τ31 ⟨x34, rfl, i32, f33, b35⟩
  have g36 : Fr MS_X12_worstOf AS_X12_worstOf σ τ31 := Fr.call (g29) f33 (by decide)
  show MW p l e _ s m args below meth c _ 2 G 0 0 21 [some (.ref (G.1 22 0)), some (.int a1)] [.int x34] τ31
  exact m_iret C hr hlk (by decide) (by decide) dX12_worstOf_21 ⟨_, rfl, i32, g36, b35⟩

abbrev MS_X12_half : List (Nat × Nat) := []
abbrev AS_X12_half : List Nat := [23]
set_option maxHeartbeats 4000000 in
set_option maxRecDepth 100000 in
theorem c_X12_half (l : Launch) (G : Gt) (σ : Sg) (a1 : Int32) (hI : Inv σ) (ha1 : IV a1 0 200) (hr0 : (a1.toInt = 0 ∨ a1.toInt = 200)) : Mc l G yX12_half cX12_half 5 none 0 0 0 0 [.ref (G.1 22 0), .int a1] σ (PV fun τ => Inv τ ∧ Fr MS_X12_half AS_X12_half σ τ) := by
  refine Mc.of (L0 := [some (.ref (G.1 22 0)), some (.int a1), none, none, none]) (by decide) (Nat.le_of_ble_eq_true rfl) rfl ?_
  intro p e s m args below meth c C hr hlk
  have C : Cx p s m args c cX12_half 5 "LeanTowerModel" := C
  have k0 : (0 : Int32).toInt = 0 := by decide
  have k1 : (1 : Int32).toInt = 1 := by decide
  have J15 : ∀ (n : Nat) (τ : Sg) (y2 : Int32), Inv τ → Fr MS_X12_half AS_X12_half σ τ → IV a1 0 200 → IV y2 0 7 → (7 - y2.toInt).toNat < n → MW p l e { frames := 0, cells := 0, slots := 0, locals := 0 } s m args below meth c (MQ below (QP G (PV fun τ => Inv τ ∧ Fr MS_X12_half AS_X12_half σ τ)) args s 0 0 (aG G)) 5 G 0 0 15 [some (.ref (G.1 22 0)), some (.int a1), some (.int y2), none, none] [] τ := by
    intro n
    induction n with
    | zero => intro τ y2 iτ fτ b_a1 b_y2 hm; exact absurd hm (Nat.not_lt_zero _)
    | succ n ih15 =>
      intro τ y2 iτ fτ b_a1 b_y2 hm15
      have J133 : ∀ (τ : Sg) (y3 : Int32) (z0 : Int32), Inv τ → Fr MS_X12_half AS_X12_half σ τ → IV a1 0 200 → IV y2 0 6 → IV y3 (-2147483648) 2147483647 → IV z0 (-2147483648) 2147483647 → MW p l e { frames := 0, cells := 0, slots := 0, locals := 0 } s m args below meth c (MQ below (QP G (PV fun τ => Inv τ ∧ Fr MS_X12_half AS_X12_half σ τ)) args s 0 0 (aG G)) 5 G 0 0 133 [some (.ref (G.1 22 0)), some (.int a1), some (.int y2), some (.int y3), none] [.int z0] τ := by
        intro τ y3 z0 iτ fτ b_a1 b_y2 b_y3 b_z0
        have u1 : IV (gV τ 23 0 2) 0 7 := iτ.1 23 0 2
        refine m_istore (L1 := [some (.ref (G.1 22 0)), some (.int a1), some (.int y2), some (.int y3), some (.int z0)]) C dX12_half_133 (by decide) rfl rfl ?_
        refine m_aload_n C dX12_half_135 rfl rfl ?_
        refine g_22_0 C q4_116 dX12_half_136 ?_
        refine m_iload_n C dX12_half_139 rfl rfl ?_
        refine m_bipush (v := 24) C dX12_half_140 (by decide) ?_
        refine m_iadd C dX12_half_142 ?_
        refine m_topi (fun x2 ex2 => ?_)
        have tx2 : x2.toInt = a1.toInt + 24 := by rw [ex2, ti_addv b_a1 kc_24 (by decide), kt_24]
        have b3 : IV x2 24 224 := by rw [ex2]; exact iv_add b_a1 kc_24 (by decide)
        refine m_iload_n C dX12_half_143 rfl rfl ?_
        refine m_iadd C dX12_half_144 ?_
        refine m_topi (fun x4 ex4 => ?_)
        have tx4 : x4.toInt = x2.toInt + y2.toInt := by rw [ex4, ti_addv b3 b_y2 (by decide)]
        have b5 : IV x4 24 230 := by rw [ex4]; exact iv_add b3 b_y2 (by decide)
        refine m_iload C dX12_half_145 rfl ?_
        refine as_23 C b5 (by decide) rfl dX12_half_147 ?_
        refine m_tops (fun τ6 eτ6 => ?_)
        have i7 : Inv τ6 := eτ6 ▸ Inv.putW iτ (by omega)
        have f8 : Fr MS_X12_half AS_X12_half σ τ6 := eτ6 ▸ Fr.put (fτ) (Or.inr (by decide))
        refine m_aload_n C dX12_half_148 rfl rfl ?_
        refine g_22_0 C q4_116 dX12_half_149 ?_
        refine m_iload_n C dX12_half_152 rfl rfl ?_
        refine m_bipush (v := 31) C dX12_half_153 (by decide) ?_
        refine m_iadd C dX12_half_155 ?_
        refine m_topi (fun x9 ex9 => ?_)
        have tx9 : x9.toInt = a1.toInt + 31 := by rw [ex9, ti_addv b_a1 kc_31 (by decide), kt_31]
        have b10 : IV x9 31 231 := by rw [ex9]; exact iv_add b_a1 kc_31 (by decide)
        refine m_iload_n C dX12_half_156 rfl rfl ?_
        refine m_iadd C dX12_half_157 ?_
        refine m_topi (fun x11 ex11 => ?_)
        have tx11 : x11.toInt = x9.toInt + y2.toInt := by rw [ex11, ti_addv b10 b_y2 (by decide)]
        have b12 : IV x11 31 237 := by rw [ex11]; exact iv_add b10 b_y2 (by decide)
        refine m_iload C dX12_half_158 rfl ?_
        refine m_iload_n C dX12_half_160 rfl rfl ?_
        refine m_if_le (tgt := 175) C dX12_half_161 (by decide) (fun c13 => ?_) (fun c13 => ?_)
        · have f14 : y3.toInt ≤ 0 := by
            have q : _ := c13
            simp only [ti_nle, ti_nlt, ti_le, ti_lt, ti_eq, ti_ne, Classical.not_not, kt_0] at q
            omega
          have b15 : IV y3 (-2147483648) 0 := ⟨by have q1 := b_y3; have q2 := kc_0; omega, by have q1 := b_y3; have q2 := kc_0; omega⟩
          refine m_iconst (v := (-1)) C dX12_half_175 (by decide) ?_
          refine m_icmp_ne (tgt := 183) C dX12_half_176 (by decide) (fun c16 => ?_) (fun c16 => ?_)
          · have f17 : z0.toInt ≠ -1 := by
              have q : _ := c16
              simp only [ti_nle, ti_nlt, ti_le, ti_lt, ti_eq, ti_ne, Classical.not_not, kt_m1] at q
              omega
            refine m_iload_n C dX12_half_183 rfl rfl ?_
            refine as_23 C b12 (by decide) rfl dX12_half_184 ?_
            refine m_tops (fun τ18 eτ18 => ?_)
            have i19 : Inv τ18 := eτ18 ▸ Inv.putW i7 (by omega)
            have f20 : Fr MS_X12_half AS_X12_half σ τ18 := eτ18 ▸ Fr.put (f8) (Or.inr (by decide))
            obtain ⟨x21, ex21⟩ : ∃ y : Int32, y = y2 + 1 := ⟨_, rfl⟩
            have tx21 : x21.toInt = y2.toInt + 1 := by rw [ex21, ti_addv b_y2 kc_1 (by decide), kt_1]
            have b22 : IV x21 1 7 := by rw [ex21]; exact iv_add b_y2 kc_1 (by decide)
            refine m_iinc (v := x21) (L1 := [some (.ref (G.1 22 0)), some (.int a1), some (.int x21), some (.int y3), some (.int z0)]) C dX12_half_185 rfl (by rw [ex21]; rfl) (by decide) rfl rfl ?_
            refine m_goto (tgt := 15) C dX12_half_188 (by decide) ?_
            refine m_sub (L1 := [some (.ref (G.1 22 0)), some (.int a1), some (.int x21), none, none]) ⟨rfl, ⟨rfl, ⟨rfl, trivial⟩⟩⟩ ?_
            have q23 : (gV τ18 23 0 2).toInt = (gV τ 23 0 2).toInt := congrArg Int32.toInt (show (gV τ18 23 0 2) = (gV τ 23 0 2) from (show gV τ18 23 0 2 = (gV τ 23 0 2) from (gV_putn eτ18 (Or.inr (Or.inr (by omega)))).trans (show gV τ6 23 0 2 = (gV τ 23 0 2) from (gV_putn eτ6 (Or.inr (Or.inr (by omega)))).trans rfl)))
            exact ih15 τ18 x21 i19 f20 b_a1 (iv_wk b22 (by decide)) (by have q := hm15; omega)
          · have f24 : z0.toInt = -1 := by
              have q : _ := c16
              simp only [ti_nle, ti_nlt, ti_le, ti_lt, ti_eq, ti_ne, Classical.not_not, kt_m1] at q
              omega
            have b25 : IV z0 (-1) (-1) := ⟨by have q1 := b_z0; have q2 := kc_m1; omega, by have q1 := b_z0; have q2 := kc_m1; omega⟩
            refine m_iconst (v := 0) C dX12_half_179 (by decide) ?_
            refine m_goto (tgt := 184) C dX12_half_180 (by decide) ?_
            refine as_23 C b12 (by decide) rfl dX12_half_184 ?_
            refine m_tops (fun τ26 eτ26 => ?_)
            have i27 : Inv τ26 := eτ26 ▸ Inv.putW i7 (by omega)
            have f28 : Fr MS_X12_half AS_X12_half σ τ26 := eτ26 ▸ Fr.put (f8) (Or.inr (by decide))
            obtain ⟨x29, ex29⟩ : ∃ y : Int32, y = y2 + 1 := ⟨_, rfl⟩
            have tx29 : x29.toInt = y2.toInt + 1 := by rw [ex29, ti_addv b_y2 kc_1 (by decide), kt_1]
            have b30 : IV x29 1 7 := by rw [ex29]; exact iv_add b_y2 kc_1 (by decide)
            refine m_iinc (v := x29) (L1 := [some (.ref (G.1 22 0)), some (.int a1), some (.int x29), some (.int y3), some (.int z0)]) C dX12_half_185 rfl (by rw [ex29]; rfl) (by decide) rfl rfl ?_
            refine m_goto (tgt := 15) C dX12_half_188 (by decide) ?_
            refine m_sub (L1 := [some (.ref (G.1 22 0)), some (.int a1), some (.int x29), none, none]) ⟨rfl, ⟨rfl, ⟨rfl, trivial⟩⟩⟩ ?_
            have q31 : (gV τ26 23 0 2).toInt = (gV τ 23 0 2).toInt := congrArg Int32.toInt (show (gV τ26 23 0 2) = (gV τ 23 0 2) from (show gV τ26 23 0 2 = (gV τ 23 0 2) from (gV_putn eτ26 (Or.inr (Or.inr (by omega)))).trans (show gV τ6 23 0 2 = (gV τ 23 0 2) from (gV_putn eτ6 (Or.inr (Or.inr (by omega)))).trans rfl)))
            exact ih15 τ26 x29 i27 f28 b_a1 (iv_wk b30 (by decide)) (by have q := hm15; omega)
        · have f32 : 0 < y3.toInt := by
            have q : _ := c13
            simp only [ti_nle, ti_nlt, ti_le, ti_lt, ti_eq, ti_ne, Classical.not_not, kt_0] at q
            omega
          have b33 : IV y3 1 2147483647 := ⟨by have q1 := kc_0; have q2 := b_y3; omega, by have q1 := kc_0; have q2 := b_y3; omega⟩
          refine m_aload_n C dX12_half_164 rfl rfl ?_
          refine g_22_0 C q4_116 dX12_half_165 ?_
          refine m_iconst (v := 0) C dX12_half_168 (by decide) ?_
          refine al_23 C kc_0 (by decide) kn_0 dX12_half_169 ?_
          refine m_topi (fun x34 ex34 => ?_)
          refine m_iconst (v := 1) C dX12_half_170 (by decide) ?_
          refine m_isub C dX12_half_171 ?_
          refine m_topi (fun x35 ex35 => ?_)
          refine m_goto (tgt := 176) C dX12_half_172 (by decide) ?_
          refine m_icmp_ne (tgt := 183) C dX12_half_176 (by decide) (fun c36 => ?_) (fun c36 => ?_)
          · have f37 : z0.toInt ≠ x35.toInt := by
              have q : _ := c36
              simp only [ti_nle, ti_nlt, ti_le, ti_lt, ti_eq, ti_ne, Classical.not_not] at q
              omega
            refine m_iload_n C dX12_half_183 rfl rfl ?_
            refine as_23 C b12 (by decide) rfl dX12_half_184 ?_
            refine m_tops (fun τ38 eτ38 => ?_)
            have i39 : Inv τ38 := eτ38 ▸ Inv.putW i7 (by omega)
            have f40 : Fr MS_X12_half AS_X12_half σ τ38 := eτ38 ▸ Fr.put (f8) (Or.inr (by decide))
            obtain ⟨x41, ex41⟩ : ∃ y : Int32, y = y2 + 1 := ⟨_, rfl⟩
            have tx41 : x41.toInt = y2.toInt + 1 := by rw [ex41, ti_addv b_y2 kc_1 (by decide), kt_1]
            have b42 : IV x41 1 7 := by rw [ex41]; exact iv_add b_y2 kc_1 (by decide)
            refine m_iinc (v := x41) (L1 := [some (.ref (G.1 22 0)), some (.int a1), some (.int x41), some (.int y3), some (.int z0)]) C dX12_half_185 rfl (by rw [ex41]; rfl) (by decide) rfl rfl ?_
            refine m_goto (tgt := 15) C dX12_half_188 (by decide) ?_
            refine m_sub (L1 := [some (.ref (G.1 22 0)), some (.int a1), some (.int x41), none, none]) ⟨rfl, ⟨rfl, ⟨rfl, trivial⟩⟩⟩ ?_
            have q43 : (gV τ38 23 0 2).toInt = (gV τ 23 0 2).toInt := congrArg Int32.toInt (show (gV τ38 23 0 2) = (gV τ 23 0 2) from (show gV τ38 23 0 2 = (gV τ 23 0 2) from (gV_putn eτ38 (Or.inr (Or.inr (by omega)))).trans (show gV τ6 23 0 2 = (gV τ 23 0 2) from (gV_putn eτ6 (Or.inr (Or.inr (by omega)))).trans rfl)))
            exact ih15 τ38 x41 i39 f40 b_a1 (iv_wk b42 (by decide)) (by have q := hm15; omega)
          · have f44 : z0.toInt = x35.toInt := by
              have q : _ := c36
              simp only [ti_nle, ti_nlt, ti_le, ti_lt, ti_eq, ti_ne, Classical.not_not] at q
              omega
            refine m_iconst (v := 0) C dX12_half_179 (by decide) ?_
            refine m_goto (tgt := 184) C dX12_half_180 (by decide) ?_
            refine as_23 C b12 (by decide) rfl dX12_half_184 ?_
            refine m_tops (fun τ45 eτ45 => ?_)
            have i46 : Inv τ45 := eτ45 ▸ Inv.putW i7 (by omega)
            have f47 : Fr MS_X12_half AS_X12_half σ τ45 := eτ45 ▸ Fr.put (f8) (Or.inr (by decide))
            obtain ⟨x48, ex48⟩ : ∃ y : Int32, y = y2 + 1 := ⟨_, rfl⟩
            have tx48 : x48.toInt = y2.toInt + 1 := by rw [ex48, ti_addv b_y2 kc_1 (by decide), kt_1]
            have b49 : IV x48 1 7 := by rw [ex48]; exact iv_add b_y2 kc_1 (by decide)
            refine m_iinc (v := x48) (L1 := [some (.ref (G.1 22 0)), some (.int a1), some (.int x48), some (.int y3), some (.int z0)]) C dX12_half_185 rfl (by rw [ex48]; rfl) (by decide) rfl rfl ?_
            refine m_goto (tgt := 15) C dX12_half_188 (by decide) ?_
            refine m_sub (L1 := [some (.ref (G.1 22 0)), some (.int a1), some (.int x48), none, none]) ⟨rfl, ⟨rfl, ⟨rfl, trivial⟩⟩⟩ ?_
            have q50 : (gV τ45 23 0 2).toInt = (gV τ 23 0 2).toInt := congrArg Int32.toInt (show (gV τ45 23 0 2) = (gV τ 23 0 2) from (show gV τ45 23 0 2 = (gV τ 23 0 2) from (gV_putn eτ45 (Or.inr (Or.inr (by omega)))).trans (show gV τ6 23 0 2 = (gV τ 23 0 2) from (gV_putn eτ6 (Or.inr (Or.inr (by omega)))).trans rfl)))
            exact ih15 τ45 x48 i46 f47 b_a1 (iv_wk b49 (by decide)) (by have q := hm15; omega)
      have J95 : ∀ (τ : Sg) (y3 : Int32) (z0 : Int32) (z1 : Int32) (z2 : Int32), Inv τ → Fr MS_X12_half AS_X12_half σ τ → IV a1 0 200 → IV y2 0 6 → IV y3 (-2147483648) 2147483647 → IV z0 1 2 → IV z1 (-2147483648) 2147483647 → IV z2 (-2147483648) 2147483647 → MW p l e { frames := 0, cells := 0, slots := 0, locals := 0 } s m args below meth c (MQ below (QP G (PV fun τ => Inv τ ∧ Fr MS_X12_half AS_X12_half σ τ)) args s 0 0 (aG G)) 5 G 0 0 95 [some (.ref (G.1 22 0)), some (.int a1), some (.int y2), some (.int y3), none] [.int z0, .int z1, .int z2] τ := by
        intro τ y3 z0 z1 z2 iτ fτ b_a1 b_y2 b_y3 b_z0 b_z1 b_z2
        have u51 : IV (gV τ 23 0 2) 0 7 := iτ.1 23 0 2
        refine m_imul C dX12_half_95 ?_
        refine m_topi (fun x52 ex52 => ?_)
        refine m_iadd C dX12_half_96 ?_
        refine m_topi (fun x53 ex53 => ?_)
        refine m_istore (L1 := [some (.ref (G.1 22 0)), some (.int a1), some (.int y2), some (.int y3), some (.int x53)]) C dX12_half_97 (by decide) rfl rfl ?_
        refine m_iload C dX12_half_99 rfl ?_
        refine m_iconst (v := (-1)) C dX12_half_101 (by decide) ?_
        refine m_icmp_ge (tgt := 109) C dX12_half_102 (by decide) (fun c54 => ?_) (fun c54 => ?_)
        · have f55 : -1 ≤ x53.toInt := by
            have q : _ := c54
            simp only [ti_nle, ti_nlt, ti_le, ti_lt, ti_eq, ti_ne, Classical.not_not, kt_m1] at q
            omega
          have b56 : IV x53 (-1) 2147483647 := ⟨by have q1 := kc_m1; have q2 := (iv_any x53); omega, by have q1 := kc_m1; have q2 := (iv_any x53); omega⟩
          refine m_iload C dX12_half_109 rfl ?_
          refine m_aload_n C dX12_half_111 rfl rfl ?_
          refine g_22_0 C q4_116 dX12_half_112 ?_
          refine m_iconst (v := 0) C dX12_half_115 (by decide) ?_
          refine al_23 C kc_0 (by decide) kn_0 dX12_half_116 ?_
          refine m_topi (fun x57 ex57 => ?_)
          refine m_icmp_lt (tgt := 131) C dX12_half_117 (by decide) (fun c58 => ?_) (fun c58 => ?_)
          · have f59 : x53.toInt < x57.toInt := by
              have q : _ := c58
              simp only [ti_nle, ti_nlt, ti_le, ti_lt, ti_eq, ti_ne, Classical.not_not] at q
              omega
            have b60 : IV x53 (-1) 2147483646 := ⟨by have q1 := b56; have q2 := (iv_any x57); omega, by have q1 := b56; have q2 := (iv_any x57); omega⟩
            have b61 : IV x57 0 2147483647 := ⟨by have q1 := b56; have q2 := (iv_any x57); omega, by have q1 := b56; have q2 := (iv_any x57); omega⟩
            refine m_iload C dX12_half_131 rfl ?_
            refine m_sub (L1 := [some (.ref (G.1 22 0)), some (.int a1), some (.int y2), some (.int y3), none]) ⟨rfl, ⟨rfl, ⟨rfl, ⟨rfl, trivial⟩⟩⟩⟩ ?_
            exact J133 τ y3 x53 iτ fτ b_a1 b_y2 b_y3 (iv_wk b60 (by decide))
          · have f62 : x57.toInt ≤ x53.toInt := by
              have q : _ := c58
              simp only [ti_nle, ti_nlt, ti_le, ti_lt, ti_eq, ti_ne, Classical.not_not] at q
              omega
            refine m_aload_n C dX12_half_120 rfl rfl ?_
            refine g_22_0 C q4_116 dX12_half_121 ?_
            refine m_iconst (v := 0) C dX12_half_124 (by decide) ?_
            refine al_23 C kc_0 (by decide) kn_0 dX12_half_125 ?_
            refine m_eqs (w := x57) ex57.symm ?_
            refine m_iconst (v := 1) C dX12_half_126 (by decide) ?_
            refine m_isub C dX12_half_127 ?_
            refine m_topi (fun x63 ex63 => ?_)
            refine m_goto (tgt := 133) C dX12_half_128 (by decide) ?_
            refine m_sub (L1 := [some (.ref (G.1 22 0)), some (.int a1), some (.int y2), some (.int y3), none]) ⟨rfl, ⟨rfl, ⟨rfl, ⟨rfl, trivial⟩⟩⟩⟩ ?_
            exact J133 τ y3 x63 iτ fτ b_a1 b_y2 b_y3 (iv_any x63)
        · have f64 : x53.toInt < -1 := by
            have q : _ := c54
            simp only [ti_nle, ti_nlt, ti_le, ti_lt, ti_eq, ti_ne, Classical.not_not, kt_m1] at q
            omega
          have b65 : IV x53 (-2147483648) (-2) := ⟨by have q1 := (iv_any x53); have q2 := kc_m1; omega, by have q1 := (iv_any x53); have q2 := kc_m1; omega⟩
          refine m_iconst (v := (-1)) C dX12_half_105 (by decide) ?_
          refine m_goto (tgt := 133) C dX12_half_106 (by decide) ?_
          refine m_sub (L1 := [some (.ref (G.1 22 0)), some (.int a1), some (.int y2), some (.int y3), none]) ⟨rfl, ⟨rfl, ⟨rfl, ⟨rfl, trivial⟩⟩⟩⟩ ?_
          exact J133 τ y3 (-1) iτ fτ b_a1 b_y2 b_y3 (iv_wk kc_m1 (by decide))
      have u66 : IV (gV τ 23 0 2) 0 7 := iτ.1 23 0 2
      refine m_iload_n C dX12_half_15 rfl rfl ?_
      refine m_aload_n C dX12_half_16 rfl rfl ?_
      refine g_22_0 C q4_116 dX12_half_17 ?_
      refine m_iconst (v := 2) C dX12_half_20 (by decide) ?_
      refine al_23 C kc_2 (by decide) kn_2 dX12_half_21 ?_
      refine m_eqs (w := (gV τ 23 0 2)) rfl ?_
      refine m_icmp_ge (tgt := 191) C dX12_half_22 (by decide) (fun c67 => ?_) (fun c67 => ?_)
      · have f68 : (gV τ 23 0 2).toInt ≤ y2.toInt := by
          have q : _ := c67
          simp only [ti_nle, ti_nlt, ti_le, ti_lt, ti_eq, ti_ne, Classical.not_not] at q
          omega
        exact m_vret C hr hlk (by decide) (by decide) dX12_half_191 ⟨rfl, iτ, fτ⟩
      · have f69 : y2.toInt < (gV τ 23 0 2).toInt := by
          have q : _ := c67
          simp only [ti_nle, ti_nlt, ti_le, ti_lt, ti_eq, ti_ne, Classical.not_not] at q
          omega
        have b70 : IV y2 0 6 := ⟨by have q1 := b_y2; have q2 := u66; omega, by have q1 := b_y2; have q2 := u66; omega⟩
        have b71 : IV (gV τ 23 0 2) 1 7 := ⟨by have q1 := b_y2; have q2 := u66; omega, by have q1 := b_y2; have q2 := u66; omega⟩
        refine m_aload_n C dX12_half_25 rfl rfl ?_
        refine g_22_0 C q4_116 dX12_half_26 ?_
        refine m_iload_n C dX12_half_29 rfl rfl ?_
        refine m_bipush (v := 31) C dX12_half_30 (by decide) ?_
        refine m_iadd C dX12_half_32 ?_
        refine m_topi (fun x72 ex72 => ?_)
        have tx72 : x72.toInt = a1.toInt + 31 := by rw [ex72, ti_addv b_a1 kc_31 (by decide), kt_31]
        have b73 : IV x72 31 231 := by rw [ex72]; exact iv_add b_a1 kc_31 (by decide)
        refine m_iload_n C dX12_half_33 rfl rfl ?_
        refine m_iadd C dX12_half_34 ?_
        refine m_topi (fun x74 ex74 => ?_)
        have tx74 : x74.toInt = x72.toInt + y2.toInt := by rw [ex74, ti_addv b73 b70 (by decide)]
        have b75 : IV x74 31 237 := by rw [ex74]; exact iv_add b73 b70 (by decide)
        refine al_23 C b75 (by decide) rfl dX12_half_35 ?_
        refine m_topi (fun x76 ex76 => ?_)
        refine m_istore_n (L1 := [some (.ref (G.1 22 0)), some (.int a1), some (.int y2), some (.int x76), none]) C dX12_half_36 rfl (by decide) rfl rfl ?_
        refine m_iload_n C dX12_half_37 rfl rfl ?_
        refine m_if_eq (tgt := 185) C dX12_half_38 (by decide) (fun c77 => ?_) (fun c77 => ?_)
        · have f78 : x76.toInt = 0 := by
            have q : _ := c77
            simp only [ti_nle, ti_nlt, ti_le, ti_lt, ti_eq, ti_ne, Classical.not_not, kt_0] at q
            omega
          have b79 : IV x76 0 0 := ⟨by have q1 := (iv_any x76); have q2 := kc_0; omega, by have q1 := (iv_any x76); have q2 := kc_0; omega⟩
          obtain ⟨x80, ex80⟩ : ∃ y : Int32, y = y2 + 1 := ⟨_, rfl⟩
          have tx80 : x80.toInt = y2.toInt + 1 := by rw [ex80, ti_addv b70 kc_1 (by decide), kt_1]
          have b81 : IV x80 1 7 := by rw [ex80]; exact iv_add b70 kc_1 (by decide)
          refine m_iinc (v := x80) (L1 := [some (.ref (G.1 22 0)), some (.int a1), some (.int x80), some (.int x76), none]) C dX12_half_185 rfl (by rw [ex80]; rfl) (by decide) rfl rfl ?_
          refine m_goto (tgt := 15) C dX12_half_188 (by decide) ?_
          refine m_sub (L1 := [some (.ref (G.1 22 0)), some (.int a1), some (.int x80), none, none]) ⟨rfl, ⟨rfl, ⟨rfl, trivial⟩⟩⟩ ?_
          exact ih15 τ x80 iτ fτ b_a1 (iv_wk b81 (by decide)) (by have q := hm15; omega)
        · have f82 : x76.toInt ≠ 0 := by
            have q : _ := c77
            simp only [ti_nle, ti_nlt, ti_le, ti_lt, ti_eq, ti_ne, Classical.not_not, kt_0] at q
            omega
          refine m_aload_n C dX12_half_41 rfl rfl ?_
          refine g_22_0 C q4_116 dX12_half_42 ?_
          refine m_iload_n C dX12_half_45 rfl rfl ?_
          refine m_bipush (v := 47) C dX12_half_46 (by decide) ?_
          refine m_iadd C dX12_half_48 ?_
          refine m_topi (fun x83 ex83 => ?_)
          have tx83 : x83.toInt = a1.toInt + 47 := by rw [ex83, ti_addv b_a1 kc_47 (by decide), kt_47]
          have b84 : IV x83 47 247 := by rw [ex83]; exact iv_add b_a1 kc_47 (by decide)
          refine al_23 C b84 (by decide) rfl dX12_half_49 ?_
          refine m_topi (fun x85 ex85 => ?_)
          refine m_aload_n C dX12_half_50 rfl rfl ?_
          refine g_22_0 C q4_116 dX12_half_51 ?_
          refine m_bipush (v := 17) C dX12_half_54 (by decide) ?_
          refine m_iload_n C dX12_half_56 rfl rfl ?_
          refine m_iadd C dX12_half_57 ?_
          refine m_topi (fun x86 ex86 => ?_)
          have tx86 : x86.toInt = 17 + y2.toInt := by rw [ex86, ti_addv kc_17 b70 (by decide), kt_17]
          have b87 : IV x86 17 23 := by rw [ex86]; exact iv_add kc_17 b70 (by decide)
          refine al_23 C b87 (by decide) rfl dX12_half_58 ?_
          refine m_topi (fun x88 ex88 => ?_)
          have b89 : IV x88 1 2147483647 := by
            have q := iτ.2.1 0 y2.toInt.toNat (by decide) (by decide) (by omega) (by show _ < (gV τ 23 0 2).toInt; omega)
            have q2 : gV τ 23 0 ((x86.toInt.toNat)) = x88 := ex88.symm
            rw [show 50 * 0 + 17 + y2.toInt.toNat = (x86.toInt.toNat) by omega, q2] at q
            exact ⟨q, (iv_any _).2⟩
          refine m_irem C dX12_half_59 (iv_nz b89 (by decide)) ?_
          refine m_topi (fun x90 ex90 => ?_)
          refine m_if_eq (tgt := 66) C dX12_half_60 (by decide) (fun c91 => ?_) (fun c91 => ?_)
          · have f92 : x90.toInt = 0 := by
              have q : _ := c91
              simp only [ti_nle, ti_nlt, ti_le, ti_lt, ti_eq, ti_ne, Classical.not_not, kt_0] at q
              omega
            have b93 : IV x90 0 0 := ⟨by have q1 := (iv_any x90); have q2 := kc_0; omega, by have q1 := (iv_any x90); have q2 := kc_0; omega⟩
            refine m_aload_n C dX12_half_66 rfl rfl ?_
            refine g_22_0 C q4_116 dX12_half_67 ?_
            refine m_iload_n C dX12_half_70 rfl rfl ?_
            refine m_bipush (v := 24) C dX12_half_71 (by decide) ?_
            refine m_iadd C dX12_half_73 ?_
            refine m_topi (fun x94 ex94 => ?_)
            have tx94 : x94.toInt = a1.toInt + 24 := by rw [ex94, ti_addv b_a1 kc_24 (by decide), kt_24]
            have b95 : IV x94 24 224 := by rw [ex94]; exact iv_add b_a1 kc_24 (by decide)
            refine m_iload_n C dX12_half_74 rfl rfl ?_
            refine m_iadd C dX12_half_75 ?_
            refine m_topi (fun x96 ex96 => ?_)
            have tx96 : x96.toInt = x94.toInt + y2.toInt := by rw [ex96, ti_addv b95 b70 (by decide)]
            have b97 : IV x96 24 230 := by rw [ex96]; exact iv_add b95 b70 (by decide)
            refine al_23 C b97 (by decide) rfl dX12_half_76 ?_
            refine m_topi (fun x98 ex98 => ?_)
            refine m_iload_n C dX12_half_77 rfl rfl ?_
            refine m_aload_n C dX12_half_78 rfl rfl ?_
            refine g_22_0 C q4_116 dX12_half_79 ?_
            refine m_iconst (v := 3) C dX12_half_82 (by decide) ?_
            refine m_iload_n C dX12_half_83 rfl rfl ?_
            refine m_iadd C dX12_half_84 ?_
            refine m_topi (fun x99 ex99 => ?_)
            have tx99 : x99.toInt = 3 + y2.toInt := by rw [ex99, ti_addv kc_3 b70 (by decide), kt_3]
            have b100 : IV x99 3 9 := by rw [ex99]; exact iv_add kc_3 b70 (by decide)
            refine al_23 C b100 (by decide) rfl dX12_half_85 ?_
            refine m_topi (fun x101 ex101 => ?_)
            refine m_iconst (v := 4) C dX12_half_86 (by decide) ?_
            refine m_icmp_ne (tgt := 94) C dX12_half_87 (by decide) (fun c102 => ?_) (fun c102 => ?_)
            · have f103 : x101.toInt ≠ 4 := by
                have q : _ := c102
                simp only [ti_nle, ti_nlt, ti_le, ti_lt, ti_eq, ti_ne, Classical.not_not, kt_4] at q
                omega
              refine m_iconst (v := 1) C dX12_half_94 (by decide) ?_
              exact J95 τ x76 1 x76 x98 iτ fτ b_a1 b70 (iv_any x76) (iv_wk kc_1 (by decide)) (iv_any x76) (iv_any x98)
            · have f104 : x101.toInt = 4 := by
                have q : _ := c102
                simp only [ti_nle, ti_nlt, ti_le, ti_lt, ti_eq, ti_ne, Classical.not_not, kt_4] at q
                omega
              have b105 : IV x101 4 4 := ⟨by have q1 := (iv_any x101); have q2 := kc_4; omega, by have q1 := (iv_any x101); have q2 := kc_4; omega⟩
              refine m_iconst (v := 2) C dX12_half_90 (by decide) ?_
              refine m_goto (tgt := 95) C dX12_half_91 (by decide) ?_
              exact J95 τ x76 2 x76 x98 iτ fτ b_a1 b70 (iv_any x76) (iv_wk kc_2 (by decide)) (iv_any x76) (iv_any x98)
          · have f106 : x90.toInt ≠ 0 := by
              have q : _ := c91
              simp only [ti_nle, ti_nlt, ti_le, ti_lt, ti_eq, ti_ne, Classical.not_not, kt_0] at q
              omega
            refine m_goto (tgt := 185) C dX12_half_63 (by decide) ?_
            obtain ⟨x107, ex107⟩ : ∃ y : Int32, y = y2 + 1 := ⟨_, rfl⟩
            have tx107 : x107.toInt = y2.toInt + 1 := by rw [ex107, ti_addv b70 kc_1 (by decide), kt_1]
            have b108 : IV x107 1 7 := by rw [ex107]; exact iv_add b70 kc_1 (by decide)
            refine m_iinc (v := x107) (L1 := [some (.ref (G.1 22 0)), some (.int a1), some (.int x107), some (.int x76), none]) C dX12_half_185 rfl (by rw [ex107]; rfl) (by decide) rfl rfl ?_
            refine m_goto (tgt := 15) C dX12_half_188 (by decide) ?_
            refine m_sub (L1 := [some (.ref (G.1 22 0)), some (.int a1), some (.int x107), none, none]) ⟨rfl, ⟨rfl, ⟨rfl, trivial⟩⟩⟩ ?_
            exact ih15 τ x107 iτ fτ b_a1 (iv_wk b108 (by decide)) (by have q := hm15; omega)
  have u109 : IV (gV σ 23 0 2) 0 7 := hI.1 23 0 2
  refine m_aload_n C dX12_half_0 rfl rfl ?_
  refine g_22_0 C q4_116 dX12_half_1 ?_
  refine m_iload_n C dX12_half_4 rfl rfl ?_
  refine m_bipush (v := 47) C dX12_half_5 (by decide) ?_
  refine m_iadd C dX12_half_7 ?_
  refine m_topi (fun x110 ex110 => ?_)
  have tx110 : x110.toInt = a1.toInt + 47 := by rw [ex110, ti_addv ha1 kc_47 (by decide), kt_47]
  have b111 : IV x110 47 247 := by rw [ex110]; exact iv_add ha1 kc_47 (by decide)
  refine m_dup2 C dX12_half_8 rfl rfl ?_
  refine al_23 C b111 (by decide) rfl dX12_half_9 ?_
  refine m_topi (fun x112 ex112 => ?_)
  refine m_iconst (v := 1) C dX12_half_10 (by decide) ?_
  refine m_iadd C dX12_half_11 ?_
  refine m_topi (fun x113 ex113 => ?_)
  refine as_23 C b111 (by decide) rfl dX12_half_12 ?_
  refine m_tops (fun τ114 eτ114 => ?_)
  have i115 : Inv τ114 := eτ114 ▸ Inv.putW hI (by omega)
  have f116 : Fr MS_X12_half AS_X12_half σ τ114 := eτ114 ▸ Fr.put (Fr.rf) (Or.inr (by decide))
  refine m_iconst (v := 0) C dX12_half_13 (by decide) ?_
  refine m_istore_n (L1 := [some (.ref (G.1 22 0)), some (.int a1), some (.int 0), none, none]) C dX12_half_14 rfl (by decide) rfl rfl ?_
  have q117 : (gV τ114 23 0 2).toInt = (gV σ 23 0 2).toInt := congrArg Int32.toInt (show (gV τ114 23 0 2) = (gV σ 23 0 2) from (show gV τ114 23 0 2 = (gV σ 23 0 2) from (gV_putn eτ114 (Or.inr (Or.inr (by omega)))).trans rfl))
  exact J15 ((7 - (0 : Int32).toInt).toNat + 1) τ114 0 i115 f116 ha1 (iv_wk kc_0 (by decide)) (Nat.lt_succ_self _)

abbrev MS_X12_creep : List (Nat × Nat) := []
abbrev AS_X12_creep : List Nat := [23]
set_option maxHeartbeats 4000000 in
set_option maxRecDepth 100000 in
theorem c_X12_creep (l : Launch) (G : Gt) (σ : Sg) (a1 : Int32) (hI : Inv σ) (ha1 : IV a1 0 200) (hr0 : (a1.toInt = 0 ∨ a1.toInt = 200)) : Mc l G yX12_creep cX12_creep 4 none 2 46 0 0 [.ref (G.1 22 0), .int a1] σ (PV fun τ => Inv τ ∧ Fr MS_X12_creep AS_X12_creep σ τ) := by
  refine Mc.of (L0 := [some (.ref (G.1 22 0)), some (.int a1), none, none]) (by decide) (Nat.le_of_ble_eq_true rfl) rfl ?_
  intro p e s m args below meth c C hr hlk
  have C : Cx p s m args c cX12_creep 4 "LeanTowerModel" := C
  have k0 : (0 : Int32).toInt = 0 := by decide
  have k1 : (1 : Int32).toInt = 1 := by decide
  refine m_aload_n C dX12_creep_0 rfl rfl ?_
  refine m_iload_n C dX12_creep_1 rfl rfl ?_
  refine m_iconst (v := 1) C dX12_creep_2 (by decide) ?_
  have q1 := kt_1
  refine m_callV (n := 2) (ci := 11) (st := []) C (c_X12_leanOf l G σ (a1) (1) hI ha1 (by omega)) (by decide) (by decide) rfl rfl rfl q5_82 q5_79 q5_81 q0_41 q1_7 (by decide +kernel) rfl (by decide) (by decide) rfl (Nat.le_of_ble_eq_true rfl) dX12_creep_3 ?_
  rintro _ τ2 ⟨x5, rfl, i3, f4, b6⟩
  have g7 : Fr MS_X12_creep AS_X12_creep σ τ2 := Fr.call (Fr.rf) f4 (by decide)
  show MW p l e _ s m args below meth c _ 4 G 0 0 6 [some (.ref (G.1 22 0)), some (.int a1), none, none] [.int x5] τ2
  refine m_bipush (v := 10) C dX12_creep_6 (by decide) ?_
  refine m_idiv C dX12_creep_8 (iv_nz kc_10 (by decide)) ?_
  refine m_topi (fun x9 ex9 => ?_)
  refine m_istore_n (L1 := [some (.ref (G.1 22 0)), some (.int a1), some (.int x9), none]) C dX12_creep_9 rfl (by decide) rfl rfl ?_
  refine m_aload_n C dX12_creep_10 rfl rfl ?_
  refine m_iload_n C dX12_creep_11 rfl rfl ?_
  refine m_iconst (v := 0) C dX12_creep_12 (by decide) ?_
  have q10 := kt_0
  refine m_callV (n := 2) (ci := 11) (st := []) C (c_X12_leanOf l G τ2 (a1) (0) i3 ha1 (by omega)) (by decide) (by decide) rfl rfl rfl q5_82 q5_79 q5_81 q0_41 q1_7 (by decide +kernel) rfl (by decide) (by decide) rfl (Nat.le_of_ble_eq_true rfl) dX12_creep_13 ?_
  rintro _ τ11 ⟨x14, rfl, i12, f13, b15⟩
  have g16 : Fr MS_X12_creep AS_X12_creep σ τ11 := Fr.call (g7) f13 (by decide)
  show MW p l e _ s m args below meth c _ 4 G 0 0 16 [some (.ref (G.1 22 0)), some (.int a1), some (.int x9), none] [.int x14] τ11
  refine m_bipush (v := 10) C dX12_creep_16 (by decide) ?_
  refine m_idiv C dX12_creep_18 (iv_nz kc_10 (by decide)) ?_
  refine m_topi (fun x18 ex18 => ?_)
  refine m_istore_n (L1 := [some (.ref (G.1 22 0)), some (.int a1), some (.int x9), some (.int x18)]) C dX12_creep_19 rfl (by decide) rfl rfl ?_
  refine m_aload_n C dX12_creep_20 rfl rfl ?_
  refine g_22_0 C q4_116 dX12_creep_21 ?_
  refine m_iload_n C dX12_creep_24 rfl rfl ?_
  refine m_bipush (v := 48) C dX12_creep_25 (by decide) ?_
  refine m_iadd C dX12_creep_27 ?_
  refine m_topi (fun x19 ex19 => ?_)
  have tx19 : x19.toInt = a1.toInt + 48 := by rw [ex19, ti_addv ha1 kc_48 (by decide), kt_48]
  have b20 : IV x19 48 248 := by rw [ex19]; exact iv_add ha1 kc_48 (by decide)
  refine m_dup2 C dX12_creep_28 rfl rfl ?_
  refine al_23 C b20 (by decide) rfl dX12_creep_29 ?_
  refine m_topi (fun x21 ex21 => ?_)
  refine m_iload_n C dX12_creep_30 rfl rfl ?_
  refine m_iadd C dX12_creep_31 ?_
  refine m_topi (fun x22 ex22 => ?_)
  refine as_23 C b20 (by decide) rfl dX12_creep_32 ?_
  refine m_tops (fun τ23 eτ23 => ?_)
  have i24 : Inv τ23 := eτ23 ▸ Inv.putW i12 (by omega)
  have f25 : Fr MS_X12_creep AS_X12_creep σ τ23 := eτ23 ▸ Fr.put (g16) (Or.inr (by decide))
  refine m_aload_n C dX12_creep_33 rfl rfl ?_
  refine g_22_0 C q4_116 dX12_creep_34 ?_
  refine m_iload_n C dX12_creep_37 rfl rfl ?_
  refine m_bipush (v := 49) C dX12_creep_38 (by decide) ?_
  refine m_iadd C dX12_creep_40 ?_
  refine m_topi (fun x26 ex26 => ?_)
  have tx26 : x26.toInt = a1.toInt + 49 := by rw [ex26, ti_addv ha1 kc_49 (by decide), kt_49]
  have b27 : IV x26 49 249 := by rw [ex26]; exact iv_add ha1 kc_49 (by decide)
  refine m_dup2 C dX12_creep_41 rfl rfl ?_
  refine al_23 C b27 (by decide) rfl dX12_creep_42 ?_
  refine m_topi (fun x28 ex28 => ?_)
  refine m_iload_n C dX12_creep_43 rfl rfl ?_
  refine m_iadd C dX12_creep_44 ?_
  refine m_topi (fun x29 ex29 => ?_)
  refine as_23 C b27 (by decide) rfl dX12_creep_45 ?_
  refine m_tops (fun τ30 eτ30 => ?_)
  have i31 : Inv τ30 := eτ30 ▸ Inv.putW i24 (by omega)
  have f32 : Fr MS_X12_creep AS_X12_creep σ τ30 := eτ30 ▸ Fr.put (f25) (Or.inr (by decide))
  exact m_vret C hr hlk (by decide) (by decide) dX12_creep_46 ⟨rfl, i31, f32⟩

abbrev MS_X12_person : List (Nat × Nat) := []
abbrev AS_X12_person : List Nat := []
set_option maxHeartbeats 4000000 in
set_option maxRecDepth 100000 in
theorem c_X12_person (l : Launch) (G : Gt) (σ : Sg) (a1 : Int32) (a2 : Int32) (hI : Inv σ) : Mc l G yX12_person cX12_person 4 (some .int) 2 46 0 0 [.ref (G.1 22 0), .int a1, .int a2] σ (PI fun r τ => Inv τ ∧ Fr MS_X12_person AS_X12_person σ τ ∧ IV r (-2147483648) 2147483647) := by
  refine Mc.of (L0 := [some (.ref (G.1 22 0)), some (.int a1), some (.int a2), none]) (by decide) (Nat.le_of_ble_eq_true rfl) rfl ?_
  intro p e s m args below meth c C hr hlk
  have C : Cx p s m args c cX12_person 4 "LeanTowerModel" := C
  have k0 : (0 : Int32).toInt = 0 := by decide
  have k1 : (1 : Int32).toInt = 1 := by decide
  refine m_aload_n C dX12_person_0 rfl rfl ?_
  refine m_iload_n C dX12_person_1 rfl rfl ?_
  refine m_callV (n := 1) (ci := 11) (st := []) C (c_X12_isOne l G σ (a1) hI ) (by decide) (by decide) rfl rfl rfl q5_50 q5_47 q5_49 q0_36 q1_7 (by decide +kernel) rfl (by decide) (by decide) rfl (Nat.le_of_ble_eq_true rfl) dX12_person_2 ?_
  rintro _ τ1 ⟨x4, rfl, i2, f3, b5, h7⟩
  have g6 : Fr MS_X12_person AS_X12_person σ τ1 := Fr.call (Fr.rf) f3 (by decide)
  show MW p l e _ s m args below meth c _ 4 G 0 0 5 [some (.ref (G.1 22 0)), some (.int a1), some (.int a2), none] [.int x4] τ1
  refine m_if_eq (tgt := 20) C dX12_person_5 (by decide) (fun c8 => ?_) (fun c8 => ?_)
  · have f9 : x4.toInt = 0 := by
      have q : _ := c8
      simp only [ti_nle, ti_nlt, ti_le, ti_lt, ti_eq, ti_ne, Classical.not_not, kt_0] at q
      omega
    have b10 : IV x4 0 0 := ⟨by have q1 := b5; have q2 := kc_0; omega, by have q1 := b5; have q2 := kc_0; omega⟩
    refine m_ldc (v := (-1000001)) C dX12_person_20 q4_192 ?_
    exact m_iret C hr hlk (by decide) (by decide) dX12_person_22 ⟨_, rfl, i2, g6, (iv_wk kc_m1000001 (by decide))⟩
  · have f11 : x4.toInt ≠ 0 := by
      have q : _ := c8
      simp only [ti_nle, ti_nlt, ti_le, ti_lt, ti_eq, ti_ne, Classical.not_not, kt_0] at q
      omega
    have b12 : IV x4 1 1 := ⟨by have q1 := b5; have q2 := kc_0; omega, by have q1 := b5; have q2 := kc_0; omega⟩
    have b13 : IV a1 0 6 := ⟨by have q1 := (iv_any a1); omega, by have q1 := (iv_any a1); omega⟩
    refine m_iload_n C dX12_person_8 rfl rfl ?_
    refine m_i2l C dX12_person_9 ?_
    refine m_lconst (v := 0) C dX12_person_10 (by decide) ?_
    refine m_ldc2 (v := 4) C dX12_person_11 q5_116 ?_
    refine m_callS (n := 3) (st := []) C (c_X12_in l G τ1 ((a2 : Int32).toInt64) (0) (4) i2 ) q4_190 q4_188 q4_189 q1_7 (by decide +kernel) rfl (by decide) (by decide) rfl (Nat.le_of_ble_eq_true rfl) dX12_person_14 ?_
    rintro _ τ14 ⟨x17, rfl, i15, f16, b18, h20⟩
    have g19 : Fr MS_X12_person AS_X12_person σ τ14 := Fr.call (g6) f16 (by decide)
    have f21 := tl_i a2
    have f22 := kl_0
    have f23 := kl_4
    show MW p l e _ s m args below meth c _ 4 G 0 0 17 [some (.ref (G.1 22 0)), some (.int a1), some (.int a2), none] [.int x17] τ14
    refine m_if_ne (tgt := 23) C dX12_person_17 (by decide) (fun c24 => ?_) (fun c24 => ?_)
    · have f25 : x17.toInt ≠ 0 := by
        have q : _ := c24
        simp only [ti_nle, ti_nlt, ti_le, ti_lt, ti_eq, ti_ne, Classical.not_not, kt_0] at q
        omega
      have b26 : IV x17 1 1 := ⟨by have q1 := b18; have q2 := kc_0; omega, by have q1 := b18; have q2 := kc_0; omega⟩
      have b27 : IV a2 0 4 := ⟨by have q1 := (iv_any a2); omega, by have q1 := (iv_any a2); omega⟩
      refine m_aload_n C dX12_person_23 rfl rfl ?_
      refine m_aload_n C dX12_person_24 rfl rfl ?_
      refine g_22_0 C q4_116 dX12_person_25 ?_
      refine m_bipush (v := 24) C dX12_person_28 (by decide) ?_
      refine m_iload_n C dX12_person_30 rfl rfl ?_
      refine m_iadd C dX12_person_31 ?_
      refine m_topi (fun x28 ex28 => ?_)
      have tx28 : x28.toInt = 24 + a1.toInt := by rw [ex28, ti_addv kc_24 b13 (by decide), kt_24]
      have b29 : IV x28 24 30 := by rw [ex28]; exact iv_add kc_24 b13 (by decide)
      refine al_23 C b29 (by decide) rfl dX12_person_32 ?_
      refine m_topi (fun x30 ex30 => ?_)
      refine m_callV (n := 1) (ci := 11) (st := []) C (c_X12_sideOf l G τ14 (x30) i15 ) (by decide) (by decide) rfl rfl rfl q5_90 q5_87 q5_89 q0_43 q1_7 (by decide +kernel) rfl (by decide) (by decide) rfl (Nat.le_of_ble_eq_true rfl) dX12_person_33 ?_
      rintro _ τ31 ⟨x34, rfl, i32, f33, b35⟩
      have g36 : Fr MS_X12_person AS_X12_person σ τ31 := Fr.call (g19) f33 (by decide)
      show MW p l e _ s m args below meth c _ 4 G 0 0 36 [some (.ref (G.1 22 0)), some (.int a1), some (.int a2), none] [.int x34] τ31
      refine m_istore_n (L1 := [some (.ref (G.1 22 0)), some (.int a1), some (.int a2), some (.int x34)]) C dX12_person_36 rfl (by decide) rfl rfl ?_
      refine m_iload_n C dX12_person_37 rfl rfl ?_
      refine m_if_ne (tgt := 53) C dX12_person_38 (by decide) (fun c38 => ?_) (fun c38 => ?_)
      · have f39 : a2.toInt ≠ 0 := by
          have q : _ := c38
          simp only [ti_nle, ti_nlt, ti_le, ti_lt, ti_eq, ti_ne, Classical.not_not, kt_0] at q
          omega
        have b40 : IV a2 1 4 := ⟨by have q1 := b27; have q2 := kc_0; omega, by have q1 := b27; have q2 := kc_0; omega⟩
        refine m_iload_n C dX12_person_53 rfl rfl ?_
        refine m_iconst (v := 1) C dX12_person_54 (by decide) ?_
        refine m_icmp_ne (tgt := 70) C dX12_person_55 (by decide) (fun c41 => ?_) (fun c41 => ?_)
        · have f42 : a2.toInt ≠ 1 := by
            have q : _ := c41
            simp only [ti_nle, ti_nlt, ti_le, ti_lt, ti_eq, ti_ne, Classical.not_not, kt_1] at q
            omega
          have b43 : IV a2 2 4 := ⟨by have q1 := b40; have q2 := kc_1; omega, by have q1 := b40; have q2 := kc_1; omega⟩
          refine m_iload_n C dX12_person_70 rfl rfl ?_
          refine m_iconst (v := 2) C dX12_person_71 (by decide) ?_
          refine m_icmp_ne (tgt := 83) C dX12_person_72 (by decide) (fun c44 => ?_) (fun c44 => ?_)
          · have f45 : a2.toInt ≠ 2 := by
              have q : _ := c44
              simp only [ti_nle, ti_nlt, ti_le, ti_lt, ti_eq, ti_ne, Classical.not_not, kt_2] at q
              omega
            have b46 : IV a2 3 4 := ⟨by have q1 := b43; have q2 := kc_2; omega, by have q1 := b43; have q2 := kc_2; omega⟩
            refine m_iload_n C dX12_person_83 rfl rfl ?_
            refine m_iconst (v := 3) C dX12_person_84 (by decide) ?_
            refine m_icmp_ne (tgt := 100) C dX12_person_85 (by decide) (fun c47 => ?_) (fun c47 => ?_)
            · have f48 : a2.toInt ≠ 3 := by
                have q : _ := c47
                simp only [ti_nle, ti_nlt, ti_le, ti_lt, ti_eq, ti_ne, Classical.not_not, kt_3] at q
                omega
              have b49 : IV a2 4 4 := ⟨by have q1 := b46; have q2 := kc_3; omega, by have q1 := b46; have q2 := kc_3; omega⟩
              refine m_iload_n C dX12_person_100 rfl rfl ?_
              refine m_if_ge (tgt := 109) C dX12_person_101 (by decide) (fun c50 => ?_) (fun c50 => ?_)
              · have f51 : 0 ≤ x34.toInt := by
                  have q : _ := c50
                  simp only [ti_nle, ti_nlt, ti_le, ti_lt, ti_eq, ti_ne, Classical.not_not, kt_0] at q
                  omega
                have b52 : IV x34 0 3 := ⟨by have q1 := kc_0; have q2 := b35; omega, by have q1 := kc_0; have q2 := b35; omega⟩
                refine m_iload_n C dX12_person_109 rfl rfl ?_
                exact m_iret C hr hlk (by decide) (by decide) dX12_person_110 ⟨_, rfl, i32, g36, (iv_wk b52 (by decide))⟩
              · have f53 : x34.toInt < 0 := by
                  have q : _ := c50
                  simp only [ti_nle, ti_nlt, ti_le, ti_lt, ti_eq, ti_ne, Classical.not_not, kt_0] at q
                  omega
                have b54 : IV x34 (-1) (-1) := ⟨by have q1 := b35; have q2 := kc_0; omega, by have q1 := b35; have q2 := kc_0; omega⟩
                refine m_ldc (v := (-1000000)) C dX12_person_104 q5_70 ?_
                refine m_goto (tgt := 110) C dX12_person_106 (by decide) ?_
                exact m_iret C hr hlk (by decide) (by decide) dX12_person_110 ⟨_, rfl, i32, g36, (iv_wk kc_m1000000 (by decide))⟩
            · have f55 : a2.toInt = 3 := by
                have q : _ := c47
                simp only [ti_nle, ti_nlt, ti_le, ti_lt, ti_eq, ti_ne, Classical.not_not, kt_3] at q
                omega
              have b56 : IV a2 3 3 := ⟨by have q1 := b46; have q2 := kc_3; omega, by have q1 := b46; have q2 := kc_3; omega⟩
              refine m_aload_n C dX12_person_88 rfl rfl ?_
              refine g_22_0 C q4_116 dX12_person_89 ?_
              refine m_bipush (v := 17) C dX12_person_92 (by decide) ?_
              refine m_iload_n C dX12_person_94 rfl rfl ?_
              refine m_iadd C dX12_person_95 ?_
              refine m_topi (fun x57 ex57 => ?_)
              have tx57 : x57.toInt = 17 + a1.toInt := by rw [ex57, ti_addv kc_17 b13 (by decide), kt_17]
              have b58 : IV x57 17 23 := by rw [ex57]; exact iv_add kc_17 b13 (by decide)
              refine al_23 C b58 (by decide) rfl dX12_person_96 ?_
              refine m_topi (fun x59 ex59 => ?_)
              refine m_goto (tgt := 110) C dX12_person_97 (by decide) ?_
              exact m_iret C hr hlk (by decide) (by decide) dX12_person_110 ⟨_, rfl, i32, g36, (iv_any x59)⟩
          · have f60 : a2.toInt = 2 := by
              have q : _ := c44
              simp only [ti_nle, ti_nlt, ti_le, ti_lt, ti_eq, ti_ne, Classical.not_not, kt_2] at q
              omega
            have b61 : IV a2 2 2 := ⟨by have q1 := b43; have q2 := kc_2; omega, by have q1 := b43; have q2 := kc_2; omega⟩
            refine m_aload_n C dX12_person_75 rfl rfl ?_
            refine m_iload_n C dX12_person_76 rfl rfl ?_
            refine m_callV (n := 1) (ci := 11) (st := []) C (c_X12_burdenOf l G τ31 (a1) i32 b13) (by decide) (by decide) rfl rfl rfl q5_86 q5_83 q5_85 q0_42 q1_7 (by decide +kernel) rfl (by decide) (by decide) rfl (Nat.le_of_ble_eq_true rfl) dX12_person_77 ?_
            rintro _ τ62 ⟨x65, rfl, i63, f64, b66⟩
            have g67 : Fr MS_X12_person AS_X12_person σ τ62 := Fr.call (g36) f64 (by decide)
            show MW p l e _ s m args below meth c _ 4 G 0 0 80 [some (.ref (G.1 22 0)), some (.int a1), some (.int a2), some (.int x34)] [.int x65] τ62
            refine m_goto (tgt := 110) C dX12_person_80 (by decide) ?_
            exact m_iret C hr hlk (by decide) (by decide) dX12_person_110 ⟨_, rfl, i63, g67, b66⟩
        · have f69 : a2.toInt = 1 := by
            have q : _ := c41
            simp only [ti_nle, ti_nlt, ti_le, ti_lt, ti_eq, ti_ne, Classical.not_not, kt_1] at q
            omega
          have b70 : IV a2 1 1 := ⟨by have q1 := b40; have q2 := kc_1; omega, by have q1 := b40; have q2 := kc_1; omega⟩
          refine m_aload_n C dX12_person_58 rfl rfl ?_
          refine g_22_0 C q4_116 dX12_person_59 ?_
          refine m_bipush (v := 31) C dX12_person_62 (by decide) ?_
          refine m_iload_n C dX12_person_64 rfl rfl ?_
          refine m_iadd C dX12_person_65 ?_
          refine m_topi (fun x71 ex71 => ?_)
          have tx71 : x71.toInt = 31 + a1.toInt := by rw [ex71, ti_addv kc_31 b13 (by decide), kt_31]
          have b72 : IV x71 31 37 := by rw [ex71]; exact iv_add kc_31 b13 (by decide)
          refine al_23 C b72 (by decide) rfl dX12_person_66 ?_
          refine m_topi (fun x73 ex73 => ?_)
          refine m_goto (tgt := 110) C dX12_person_67 (by decide) ?_
          exact m_iret C hr hlk (by decide) (by decide) dX12_person_110 ⟨_, rfl, i32, g36, (iv_any x73)⟩
      · have f74 : a2.toInt = 0 := by
          have q : _ := c38
          simp only [ti_nle, ti_nlt, ti_le, ti_lt, ti_eq, ti_ne, Classical.not_not, kt_0] at q
          omega
        have b75 : IV a2 0 0 := ⟨by have q1 := b27; have q2 := kc_0; omega, by have q1 := b27; have q2 := kc_0; omega⟩
        refine m_aload_n C dX12_person_41 rfl rfl ?_
        refine g_22_0 C q4_116 dX12_person_42 ?_
        refine m_bipush (v := 24) C dX12_person_45 (by decide) ?_
        refine m_iload_n C dX12_person_47 rfl rfl ?_
        refine m_iadd C dX12_person_48 ?_
        refine m_topi (fun x76 ex76 => ?_)
        have tx76 : x76.toInt = 24 + a1.toInt := by rw [ex76, ti_addv kc_24 b13 (by decide), kt_24]
        have b77 : IV x76 24 30 := by rw [ex76]; exact iv_add kc_24 b13 (by decide)
        refine al_23 C b77 (by decide) rfl dX12_person_49 ?_
        refine m_topi (fun x78 ex78 => ?_)
        refine m_goto (tgt := 110) C dX12_person_50 (by decide) ?_
        exact m_iret C hr hlk (by decide) (by decide) dX12_person_110 ⟨_, rfl, i32, g36, (iv_any x78)⟩
    · have f79 : x17.toInt = 0 := by
        have q : _ := c24
        simp only [ti_nle, ti_nlt, ti_le, ti_lt, ti_eq, ti_ne, Classical.not_not, kt_0] at q
        omega
      have b80 : IV x17 0 0 := ⟨by have q1 := b18; have q2 := kc_0; omega, by have q1 := b18; have q2 := kc_0; omega⟩
      refine m_ldc (v := (-1000001)) C dX12_person_20 q4_192 ?_
      exact m_iret C hr hlk (by decide) (by decide) dX12_person_22 ⟨_, rfl, i15, g19, (iv_wk kc_m1000001 (by decide))⟩

abbrev MS_X12_lean : List (Nat × Nat) := []
abbrev AS_X12_lean : List Nat := []
set_option maxHeartbeats 4000000 in
set_option maxRecDepth 100000 in
theorem c_X12_lean (l : Launch) (G : Gt) (σ : Sg) (a1 : Int32) (hI : Inv σ) : Mc l G yX12_lean cX12_lean 2 (some .int) 3 67 0 0 [.ref (G.1 22 0), .int a1] σ (PI fun r τ => Inv τ ∧ Fr MS_X12_lean AS_X12_lean σ τ ∧ IV r (-2147483648) 2147483647) := by
  refine Mc.of (L0 := [some (.ref (G.1 22 0)), some (.int a1)]) (by decide) (Nat.le_of_ble_eq_true rfl) rfl ?_
  intro p e s m args below meth c C hr hlk
  have C : Cx p s m args c cX12_lean 2 "LeanTowerModel" := C
  have k0 : (0 : Int32).toInt = 0 := by decide
  have k1 : (1 : Int32).toInt = 1 := by decide
  refine m_aload_n C dX12_lean_0 rfl rfl ?_
  refine m_callV (n := 0) (ci := 11) (st := []) C (c_X12_isTower l G σ  hI ) (by decide) (by decide) rfl rfl rfl q5_67 q5_64 q5_66 q0_38 q1_7 (by decide +kernel) rfl (by decide) (by decide) rfl (Nat.le_of_ble_eq_true rfl) dX12_lean_1 ?_
  rintro _ τ1 ⟨x4, rfl, i2, f3, b5⟩
  have g6 : Fr MS_X12_lean AS_X12_lean σ τ1 := Fr.call (Fr.rf) f3 (by decide)
  show MW p l e _ s m args below meth c _ 2 G 0 0 4 [some (.ref (G.1 22 0)), some (.int a1)] [.int x4] τ1
  refine m_if_ne (tgt := 10) C dX12_lean_4 (by decide) (fun c8 => ?_) (fun c8 => ?_)
  · have f9 : x4.toInt ≠ 0 := by
      have q : _ := c8
      simp only [ti_nle, ti_nlt, ti_le, ti_lt, ti_eq, ti_ne, Classical.not_not, kt_0] at q
      omega
    have b10 : IV x4 1 1 := ⟨by have q1 := b5; have q2 := kc_0; omega, by have q1 := b5; have q2 := kc_0; omega⟩
    refine m_iload_n C dX12_lean_10 rfl rfl ?_
    by_cases s11 : a1.toInt < 0 ∨ 4 < a1.toInt
    · refine m_tableOut (tgt := 94) C dX12_lean_11 s11 (by decide) ?_
      refine m_ldc (v := (-1000001)) C dX12_lean_94 q4_192 ?_
      exact m_iret C hr hlk (by decide) (by decide) dX12_lean_96 ⟨_, rfl, i2, g6, (iv_wk kc_m1000001 (by decide))⟩
    by_cases s12 : a1.toInt = 0
    · refine m_tableIn (tgt := 44) (off := 33) C dX12_lean_11 (by omega) (by omega) (by rw [s12]; rfl) (by decide) ?_
      have b13 : IV a1 0 0 := ⟨by omega, by omega⟩
      refine m_aload_n C dX12_lean_44 rfl rfl ?_
      refine m_iconst (v := 0) C dX12_lean_45 (by decide) ?_
      refine m_iconst (v := 1) C dX12_lean_46 (by decide) ?_
      have q14 := kt_0
      have q15 := kt_1
      refine m_callV (n := 2) (ci := 11) (st := []) C (c_X12_leanOf l G τ1 (0) (1) i2 (iv_wk kc_0 (by decide)) (by omega)) (by decide) (by decide) rfl rfl rfl q5_82 q5_79 q5_81 q0_41 q1_7 (by decide +kernel) rfl (by decide) (by decide) rfl (Nat.le_of_ble_eq_true rfl) dX12_lean_47 ?_
      rintro _ τ16 ⟨x19, rfl, i17, f18, b20⟩
      have g21 : Fr MS_X12_lean AS_X12_lean σ τ16 := Fr.call (g6) f18 (by decide)
      show MW p l e _ s m args below meth c _ 2 G 0 0 50 [some (.ref (G.1 22 0)), some (.int a1)] [.int x19] τ16
      exact m_iret C hr hlk (by decide) (by decide) dX12_lean_50 ⟨_, rfl, i17, g21, b20⟩
    by_cases s23 : a1.toInt = 1
    · refine m_tableIn (tgt := 51) (off := 40) C dX12_lean_11 (by omega) (by omega) (by rw [s23]; rfl) (by decide) ?_
      have b24 : IV a1 1 1 := ⟨by omega, by omega⟩
      refine m_aload_n C dX12_lean_51 rfl rfl ?_
      refine m_iconst (v := 0) C dX12_lean_52 (by decide) ?_
      refine m_iconst (v := 0) C dX12_lean_53 (by decide) ?_
      have q25 := kt_0
      have q26 := kt_0
      refine m_callV (n := 2) (ci := 11) (st := []) C (c_X12_leanOf l G τ1 (0) (0) i2 (iv_wk kc_0 (by decide)) (by omega)) (by decide) (by decide) rfl rfl rfl q5_82 q5_79 q5_81 q0_41 q1_7 (by decide +kernel) rfl (by decide) (by decide) rfl (Nat.le_of_ble_eq_true rfl) dX12_lean_54 ?_
      rintro _ τ27 ⟨x30, rfl, i28, f29, b31⟩
      have g32 : Fr MS_X12_lean AS_X12_lean σ τ27 := Fr.call (g6) f29 (by decide)
      show MW p l e _ s m args below meth c _ 2 G 0 0 57 [some (.ref (G.1 22 0)), some (.int a1)] [.int x30] τ27
      exact m_iret C hr hlk (by decide) (by decide) dX12_lean_57 ⟨_, rfl, i28, g32, b31⟩
    by_cases s34 : a1.toInt = 2
    · refine m_tableIn (tgt := 58) (off := 47) C dX12_lean_11 (by omega) (by omega) (by rw [s34]; rfl) (by decide) ?_
      have b35 : IV a1 2 2 := ⟨by omega, by omega⟩
      refine m_aload_n C dX12_lean_58 rfl rfl ?_
      refine m_iconst (v := 0) C dX12_lean_59 (by decide) ?_
      have q36 := kt_0
      refine m_callV (n := 1) (ci := 11) (st := []) C (c_X12_worstOf l G τ1 (0) i2 (iv_wk kc_0 (by decide)) (by omega)) (by decide) (by decide) rfl rfl rfl q5_78 q5_75 q5_77 q0_40 q1_7 (by decide +kernel) rfl (by decide) (by decide) rfl (Nat.le_of_ble_eq_true rfl) dX12_lean_60 ?_
      rintro _ τ37 ⟨x40, rfl, i38, f39, b41⟩
      have g42 : Fr MS_X12_lean AS_X12_lean σ τ37 := Fr.call (g6) f39 (by decide)
      show MW p l e _ s m args below meth c _ 2 G 0 0 63 [some (.ref (G.1 22 0)), some (.int a1)] [.int x40] τ37
      refine m_aload_n C dX12_lean_63 rfl rfl ?_
      refine g_22_0 C q4_116 dX12_lean_64 ?_
      refine m_iconst (v := 1) C dX12_lean_67 (by decide) ?_
      refine al_23 C kc_1 (by decide) kn_1 dX12_lean_68 ?_
      refine m_topi (fun x44 ex44 => ?_)
      refine m_icmp_le (tgt := 76) C dX12_lean_69 (by decide) (fun c45 => ?_) (fun c45 => ?_)
      · have f46 : x40.toInt ≤ x44.toInt := by
          have q : _ := c45
          simp only [ti_nle, ti_nlt, ti_le, ti_lt, ti_eq, ti_ne, Classical.not_not] at q
          omega
        refine m_iconst (v := 0) C dX12_lean_76 (by decide) ?_
        exact m_iret C hr hlk (by decide) (by decide) dX12_lean_77 ⟨_, rfl, i38, g42, (iv_wk kc_0 (by decide))⟩
      · have f47 : x44.toInt < x40.toInt := by
          have q : _ := c45
          simp only [ti_nle, ti_nlt, ti_le, ti_lt, ti_eq, ti_ne, Classical.not_not] at q
          omega
        have b48 : IV x44 (-2147483648) 2147483646 := ⟨by have q1 := (iv_any x44); have q2 := b41; omega, by have q1 := (iv_any x44); have q2 := b41; omega⟩
        have b49 : IV x40 (-2147483647) 2147483647 := ⟨by have q1 := (iv_any x44); have q2 := b41; omega, by have q1 := (iv_any x44); have q2 := b41; omega⟩
        refine m_iconst (v := 1) C dX12_lean_72 (by decide) ?_
        refine m_goto (tgt := 77) C dX12_lean_73 (by decide) ?_
        exact m_iret C hr hlk (by decide) (by decide) dX12_lean_77 ⟨_, rfl, i38, g42, (iv_wk kc_1 (by decide))⟩
    by_cases s50 : a1.toInt = 3
    · refine m_tableIn (tgt := 78) (off := 67) C dX12_lean_11 (by omega) (by omega) (by rw [s50]; rfl) (by decide) ?_
      have b51 : IV a1 3 3 := ⟨by omega, by omega⟩
      refine m_aload_n C dX12_lean_78 rfl rfl ?_
      refine g_22_0 C q4_116 dX12_lean_79 ?_
      refine m_bipush (v := 48) C dX12_lean_82 (by decide) ?_
      refine al_23 C kc_48 (by decide) kn_48 dX12_lean_84 ?_
      refine m_topi (fun x52 ex52 => ?_)
      exact m_iret C hr hlk (by decide) (by decide) dX12_lean_85 ⟨_, rfl, i2, g6, (iv_any x52)⟩
    by_cases s53 : a1.toInt = 4
    · refine m_tableIn (tgt := 86) (off := 75) C dX12_lean_11 (by omega) (by omega) (by rw [s53]; rfl) (by decide) ?_
      have b54 : IV a1 4 4 := ⟨by omega, by omega⟩
      refine m_aload_n C dX12_lean_86 rfl rfl ?_
      refine g_22_0 C q4_116 dX12_lean_87 ?_
      refine m_bipush (v := 49) C dX12_lean_90 (by decide) ?_
      refine al_23 C kc_49 (by decide) kn_49 dX12_lean_92 ?_
      refine m_topi (fun x55 ex55 => ?_)
      exact m_iret C hr hlk (by decide) (by decide) dX12_lean_93 ⟨_, rfl, i2, g6, (iv_any x55)⟩
    exact absurd s11 (by omega)
  · have f56 : x4.toInt = 0 := by
      have q : _ := c8
      simp only [ti_nle, ti_nlt, ti_le, ti_lt, ti_eq, ti_ne, Classical.not_not, kt_0] at q
      omega
    have b57 : IV x4 0 0 := ⟨by have q1 := b5; have q2 := kc_0; omega, by have q1 := b5; have q2 := kc_0; omega⟩
    refine m_ldc (v := (-1000002)) C dX12_lean_7 q5_68 ?_
    exact m_iret C hr hlk (by decide) (by decide) dX12_lean_9 ⟨_, rfl, i2, g6, (iv_wk kc_m1000002 (by decide))⟩

abbrev MS_X12_foretell : List (Nat × Nat) := [(22, 17)]
abbrev AS_X12_foretell : List Nat := [23]
set_option maxHeartbeats 4000000 in
set_option maxRecDepth 100000 in
theorem c_X12_foretell (l : Launch) (G : Gt) (σ : Sg) (a1 : Int32) (a2 : Int32) (hI : Inv σ) (ha1 : IV a1 (-1) 6) : Mc l G yX12_foretell cX12_foretell 6 (some .int) 3 67 0 0 [.ref (G.1 22 0), .int a1, .int a2] σ (PI fun r τ => Inv τ ∧ Fr MS_X12_foretell AS_X12_foretell σ τ ∧ IV r (-2147483648) 2147483647) := by
  refine Mc.of (L0 := [some (.ref (G.1 22 0)), some (.int a1), some (.int a2), none, none, none]) (by decide) (Nat.le_of_ble_eq_true rfl) rfl ?_
  intro p e s m args below meth c C hr hlk
  have C : Cx p s m args c cX12_foretell 6 "LeanTowerModel" := C
  have k0 : (0 : Int32).toInt = 0 := by decide
  have k1 : (1 : Int32).toInt = 1 := by decide
  have J11 : ∀ (n : Nat) (τ : Sg) (y3 : Int32) (y4 : Int32), Inv τ → Fr MS_X12_foretell AS_X12_foretell σ τ → IV a1 (-1) 6 → IV a2 (-2147483648) 2147483647 → IV y3 (-2147483648) 2147483647 → IV y4 0 65 → (65 - y4.toInt).toNat < n → MW p l e { frames := 3, cells := 0, slots := 0, locals := 67 } s m args below meth c (MQ below (QP G (PI fun r τ => Inv τ ∧ Fr MS_X12_foretell AS_X12_foretell σ τ ∧ IV r (-2147483648) 2147483647)) args s 0 0 (aG G)) 6 G 0 0 11 [some (.ref (G.1 22 0)), some (.int a1), some (.int a2), some (.int y3), some (.int y4), none] [] τ := by
    intro n
    induction n with
    | zero => intro τ y3 y4 iτ fτ b_a1 b_a2 b_y3 b_y4 hm; exact absurd hm (Nat.not_lt_zero _)
    | succ n ih11 =>
      intro τ y3 y4 iτ fτ b_a1 b_a2 b_y3 b_y4 hm11
      have J69 : ∀ (τ : Sg) (y5 : Int32) (z0 : Int32), Inv τ → Fr MS_X12_foretell AS_X12_foretell σ τ → IV a1 (-1) 6 → IV a2 (-2147483648) 2147483647 → IV y3 (-2147483648) 2147483647 → IV y4 0 64 → IV y5 (-2147483648) 2147483647 → IV z0 (-2147483648) 2147483647 → MW p l e { frames := 3, cells := 0, slots := 0, locals := 67 } s m args below meth c (MQ below (QP G (PI fun r τ => Inv τ ∧ Fr MS_X12_foretell AS_X12_foretell σ τ ∧ IV r (-2147483648) 2147483647)) args s 0 0 (aG G)) 6 G 0 0 69 [some (.ref (G.1 22 0)), some (.int a1), some (.int a2), some (.int y3), some (.int y4), some (.int y5)] [.int z0, .ref (G.1 22 0)] τ := by
        intro τ y5 z0 iτ fτ b_a1 b_a2 b_y3 b_y4 b_y5 b_z0
        refine p_22_17 C q4_133 dX12_foretell_69 ?_
        refine m_tops (fun τ1 eτ1 => ?_)
        have i2 : Inv τ1 := eτ1 ▸ Inv.putF iτ (by decide) rfl
        have f3 : Fr MS_X12_foretell AS_X12_foretell σ τ1 := eτ1 ▸ Fr.put (fτ) (Or.inl (by decide))
        refine m_iload_n C dX12_foretell_72 rfl rfl ?_
        refine m_iload C dX12_foretell_73 rfl ?_
        refine m_callS (n := 2) (st := []) C (c_X12_greater l G τ1 (y3) (y5) i2 ) q5_99 q5_97 q5_98 q1_7 (by decide +kernel) rfl (by decide) (by decide) rfl (Nat.le_of_ble_eq_true rfl) dX12_foretell_75 ?_
        rintro _ τ4 ⟨x7, rfl, i5, f6, b8⟩
        have g9 : Fr MS_X12_foretell AS_X12_foretell σ τ4 := Fr.call (f3) f6 (by decide)
        show MW p l e _ s m args below meth c _ 6 G 0 0 78 [some (.ref (G.1 22 0)), some (.int a1), some (.int a2), some (.int y3), some (.int y4), some (.int y5)] [.int x7] τ4
        refine m_istore_n (L1 := [some (.ref (G.1 22 0)), some (.int a1), some (.int a2), some (.int x7), some (.int y4), some (.int y5)]) C dX12_foretell_78 rfl (by decide) rfl rfl ?_
        refine m_iload C dX12_foretell_79 rfl ?_
        refine m_iload_n C dX12_foretell_81 rfl rfl ?_
        refine m_icmp_ne (tgt := 100) C dX12_foretell_82 (by decide) (fun c11 => ?_) (fun c11 => ?_)
        · have f12 : y4.toInt ≠ a2.toInt := by
            have q : _ := c11
            simp only [ti_nle, ti_nlt, ti_le, ti_lt, ti_eq, ti_ne, Classical.not_not] at q
            omega
          obtain ⟨x13, ex13⟩ : ∃ y : Int32, y = y4 + 1 := ⟨_, rfl⟩
          have tx13 : x13.toInt = y4.toInt + 1 := by rw [ex13, ti_addv b_y4 kc_1 (by decide), kt_1]
          have b14 : IV x13 1 65 := by rw [ex13]; exact iv_add b_y4 kc_1 (by decide)
          refine m_iinc (v := x13) (L1 := [some (.ref (G.1 22 0)), some (.int a1), some (.int a2), some (.int x7), some (.int x13), some (.int y5)]) C dX12_foretell_100 rfl (by rw [ex13]; rfl) (by decide) rfl rfl ?_
          refine m_goto (tgt := 11) C dX12_foretell_103 (by decide) ?_
          refine m_sub (L1 := [some (.ref (G.1 22 0)), some (.int a1), some (.int a2), some (.int x7), some (.int x13), none]) ⟨rfl, ⟨rfl, ⟨rfl, ⟨rfl, ⟨rfl, trivial⟩⟩⟩⟩⟩ ?_
          exact ih11 τ4 x7 x13 i5 g9 b_a1 b_a2 b8 (iv_wk b14 (by decide)) (by have q := hm11; omega)
        · have f15 : y4.toInt = a2.toInt := by
            have q : _ := c11
            simp only [ti_nle, ti_nlt, ti_le, ti_lt, ti_eq, ti_ne, Classical.not_not] at q
            omega
          have b16 : IV a2 0 64 := ⟨by have q1 := b_y4; have q2 := b_a2; omega, by have q1 := b_y4; have q2 := b_a2; omega⟩
          refine m_iload_n C dX12_foretell_85 rfl rfl ?_
          refine m_if_lt (tgt := 100) C dX12_foretell_86 (by decide) (fun c17 => ?_) (fun c17 => ?_)
          · have f18 : a1.toInt < 0 := by
              have q : _ := c17
              simp only [ti_nle, ti_nlt, ti_le, ti_lt, ti_eq, ti_ne, Classical.not_not, kt_0] at q
              omega
            have b19 : IV a1 (-1) (-1) := ⟨by have q1 := b_a1; have q2 := kc_0; omega, by have q1 := b_a1; have q2 := kc_0; omega⟩
            obtain ⟨x20, ex20⟩ : ∃ y : Int32, y = y4 + 1 := ⟨_, rfl⟩
            have tx20 : x20.toInt = y4.toInt + 1 := by rw [ex20, ti_addv b_y4 kc_1 (by decide), kt_1]
            have b21 : IV x20 1 65 := by rw [ex20]; exact iv_add b_y4 kc_1 (by decide)
            refine m_iinc (v := x20) (L1 := [some (.ref (G.1 22 0)), some (.int a1), some (.int a2), some (.int x7), some (.int x20), some (.int y5)]) C dX12_foretell_100 rfl (by rw [ex20]; rfl) (by decide) rfl rfl ?_
            refine m_goto (tgt := 11) C dX12_foretell_103 (by decide) ?_
            refine m_sub (L1 := [some (.ref (G.1 22 0)), some (.int a1), some (.int a2), some (.int x7), some (.int x20), none]) ⟨rfl, ⟨rfl, ⟨rfl, ⟨rfl, ⟨rfl, trivial⟩⟩⟩⟩⟩ ?_
            exact ih11 τ4 x7 x20 i5 g9 (iv_wk b19 (by decide)) (iv_wk b16 (by decide)) b8 (iv_wk b21 (by decide)) (by have q := hm11; omega)
          · have f22 : 0 ≤ a1.toInt := by
              have q : _ := c17
              simp only [ti_nle, ti_nlt, ti_le, ti_lt, ti_eq, ti_ne, Classical.not_not, kt_0] at q
              omega
            have b23 : IV a1 0 6 := ⟨by have q1 := kc_0; have q2 := b_a1; omega, by have q1 := kc_0; have q2 := b_a1; omega⟩
            refine m_aload_n C dX12_foretell_89 rfl rfl ?_
            refine g_22_0 C q4_116 dX12_foretell_90 ?_
            refine m_sipush (v := 231) C dX12_foretell_93 (by decide) ?_
            refine m_iload_n C dX12_foretell_96 rfl rfl ?_
            refine m_iadd C dX12_foretell_97 ?_
            refine m_topi (fun x24 ex24 => ?_)
            have tx24 : x24.toInt = 231 + a1.toInt := by rw [ex24, ti_addv kc_231 b23 (by decide), kt_231]
            have b25 : IV x24 231 237 := by rw [ex24]; exact iv_add kc_231 b23 (by decide)
            refine m_iconst (v := 1) C dX12_foretell_98 (by decide) ?_
            refine as_23 C b25 (by decide) rfl dX12_foretell_99 ?_
            refine m_tops (fun τ26 eτ26 => ?_)
            have i27 : Inv τ26 := eτ26 ▸ Inv.putW i5 (by omega)
            have f28 : Fr MS_X12_foretell AS_X12_foretell σ τ26 := eτ26 ▸ Fr.put (g9) (Or.inr (by decide))
            obtain ⟨x29, ex29⟩ : ∃ y : Int32, y = y4 + 1 := ⟨_, rfl⟩
            have tx29 : x29.toInt = y4.toInt + 1 := by rw [ex29, ti_addv b_y4 kc_1 (by decide), kt_1]
            have b30 : IV x29 1 65 := by rw [ex29]; exact iv_add b_y4 kc_1 (by decide)
            refine m_iinc (v := x29) (L1 := [some (.ref (G.1 22 0)), some (.int a1), some (.int a2), some (.int x7), some (.int x29), some (.int y5)]) C dX12_foretell_100 rfl (by rw [ex29]; rfl) (by decide) rfl rfl ?_
            refine m_goto (tgt := 11) C dX12_foretell_103 (by decide) ?_
            refine m_sub (L1 := [some (.ref (G.1 22 0)), some (.int a1), some (.int a2), some (.int x7), some (.int x29), none]) ⟨rfl, ⟨rfl, ⟨rfl, ⟨rfl, ⟨rfl, trivial⟩⟩⟩⟩⟩ ?_
            exact ih11 τ26 x7 x29 i27 f28 (iv_wk b23 (by decide)) (iv_wk b16 (by decide)) b8 (iv_wk b30 (by decide)) (by have q := hm11; omega)
      have J30 : ∀ (τ : Sg), Inv τ → Fr MS_X12_foretell AS_X12_foretell σ τ → IV a1 (-1) 6 → IV a2 (-2147483648) 2147483647 → IV y3 (-2147483648) 2147483647 → IV y4 0 64 → MW p l e { frames := 3, cells := 0, slots := 0, locals := 67 } s m args below meth c (MQ below (QP G (PI fun r τ => Inv τ ∧ Fr MS_X12_foretell AS_X12_foretell σ τ ∧ IV r (-2147483648) 2147483647)) args s 0 0 (aG G)) 6 G 0 0 30 [some (.ref (G.1 22 0)), some (.int a1), some (.int a2), some (.int y3), some (.int y4), none] [] τ := by
        intro τ iτ fτ b_a1 b_a2 b_y3 b_y4
        refine m_aload_n C dX12_foretell_30 rfl rfl ?_
        refine m_sipush (v := 200) C dX12_foretell_31 (by decide) ?_
        have q31 := kt_200
        refine m_callV (n := 1) (ci := 11) (st := []) C (c_X12_worstOf l G τ (200) iτ (iv_wk kc_200 (by decide)) (by omega)) (by decide) (by decide) rfl rfl rfl q5_78 q5_75 q5_77 q0_40 q1_7 (by decide +kernel) rfl (by decide) (by decide) rfl (Nat.le_of_ble_eq_true rfl) dX12_foretell_34 ?_
        rintro _ τ32 ⟨x35, rfl, i33, f34, b36⟩
        have g37 : Fr MS_X12_foretell AS_X12_foretell σ τ32 := Fr.call (fτ) f34 (by decide)
        show MW p l e _ s m args below meth c _ 6 G 0 0 37 [some (.ref (G.1 22 0)), some (.int a1), some (.int a2), some (.int y3), some (.int y4), none] [.int x35] τ32
        refine m_istore (L1 := [some (.ref (G.1 22 0)), some (.int a1), some (.int a2), some (.int y3), some (.int y4), some (.int x35)]) C dX12_foretell_37 (by decide) rfl rfl ?_
        refine m_aload_n C dX12_foretell_39 rfl rfl ?_
        refine m_aload_n C dX12_foretell_40 rfl rfl ?_
        refine g_22_17 C q4_133 dX12_foretell_41 ?_
        refine m_topi (fun x39 ex39 => ?_)
        refine m_ldc (v := (-1000000)) C dX12_foretell_44 q5_70 ?_
        refine m_icmp_ne (tgt := 65) C dX12_foretell_46 (by decide) (fun c40 => ?_) (fun c40 => ?_)
        · have f41 : x39.toInt ≠ -1000000 := by
            have q : _ := c40
            simp only [ti_nle, ti_nlt, ti_le, ti_lt, ti_eq, ti_ne, Classical.not_not, kt_m1000000] at q
            omega
          refine m_aload_n C dX12_foretell_65 rfl rfl ?_
          refine g_22_17 C q4_133 dX12_foretell_66 ?_
          refine m_eqs (w := x39) ex39.symm ?_
          exact J69 τ32 x35 x39 i33 g37 b_a1 b_a2 b_y3 b_y4 b36 (iv_any x39)
        · have f42 : x39.toInt = -1000000 := by
            have q : _ := c40
            simp only [ti_nle, ti_nlt, ti_le, ti_lt, ti_eq, ti_ne, Classical.not_not, kt_m1000000] at q
            omega
          have b43 : IV x39 (-1000000) (-1000000) := ⟨by have q1 := (iv_any x39); have q2 := kc_m1000000; omega, by have q1 := (iv_any x39); have q2 := kc_m1000000; omega⟩
          refine m_iload C dX12_foretell_49 rfl ?_
          refine m_aload_n C dX12_foretell_51 rfl rfl ?_
          refine g_22_0 C q4_116 dX12_foretell_52 ?_
          refine m_iconst (v := 1) C dX12_foretell_55 (by decide) ?_
          refine al_23 C kc_1 (by decide) kn_1 dX12_foretell_56 ?_
          refine m_topi (fun x44 ex44 => ?_)
          refine m_icmp_le (tgt := 65) C dX12_foretell_57 (by decide) (fun c45 => ?_) (fun c45 => ?_)
          · have f46 : x35.toInt ≤ x44.toInt := by
              have q : _ := c45
              simp only [ti_nle, ti_nlt, ti_le, ti_lt, ti_eq, ti_ne, Classical.not_not] at q
              omega
            refine m_aload_n C dX12_foretell_65 rfl rfl ?_
            refine g_22_17 C q4_133 dX12_foretell_66 ?_
            refine m_eqs (w := x39) ex39.symm ?_
            exact J69 τ32 x35 x39 i33 g37 b_a1 b_a2 b_y3 b_y4 b36 (iv_wk b43 (by decide))
          · have f47 : x44.toInt < x35.toInt := by
              have q : _ := c45
              simp only [ti_nle, ti_nlt, ti_le, ti_lt, ti_eq, ti_ne, Classical.not_not] at q
              omega
            have b48 : IV x44 (-2147483648) 2147483646 := ⟨by have q1 := (iv_any x44); have q2 := b36; omega, by have q1 := (iv_any x44); have q2 := b36; omega⟩
            have b49 : IV x35 (-2147483647) 2147483647 := ⟨by have q1 := (iv_any x44); have q2 := b36; omega, by have q1 := (iv_any x44); have q2 := b36; omega⟩
            refine m_iload C dX12_foretell_60 rfl ?_
            refine m_goto (tgt := 69) C dX12_foretell_62 (by decide) ?_
            exact J69 τ32 x35 y4 i33 g37 b_a1 b_a2 b_y3 b_y4 (iv_wk b49 (by decide)) (iv_wk b_y4 (by decide))
      refine m_iload C dX12_foretell_11 rfl ?_
      refine m_bipush (v := 64) C dX12_foretell_13 (by decide) ?_
      refine m_icmp_gt (tgt := 106) C dX12_foretell_15 (by decide) (fun c50 => ?_) (fun c50 => ?_)
      · have f51 : 64 < y4.toInt := by
          have q : _ := c50
          simp only [ti_nle, ti_nlt, ti_le, ti_lt, ti_eq, ti_ne, Classical.not_not, kt_64] at q
          omega
        have b52 : IV y4 65 65 := ⟨by have q1 := kc_64; have q2 := b_y4; omega, by have q1 := kc_64; have q2 := b_y4; omega⟩
        refine m_iload_n C dX12_foretell_106 rfl rfl ?_
        exact m_iret C hr hlk (by decide) (by decide) dX12_foretell_107 ⟨_, rfl, iτ, fτ, b_y3⟩
      · have f53 : y4.toInt ≤ 64 := by
          have q : _ := c50
          simp only [ti_nle, ti_nlt, ti_le, ti_lt, ti_eq, ti_ne, Classical.not_not, kt_64] at q
          omega
        have b54 : IV y4 0 64 := ⟨by have q1 := b_y4; have q2 := kc_64; omega, by have q1 := b_y4; have q2 := kc_64; omega⟩
        refine m_iload C dX12_foretell_18 rfl ?_
        refine m_if_le (tgt := 30) C dX12_foretell_20 (by decide) (fun c55 => ?_) (fun c55 => ?_)
        · have f56 : y4.toInt ≤ 0 := by
            have q : _ := c55
            simp only [ti_nle, ti_nlt, ti_le, ti_lt, ti_eq, ti_ne, Classical.not_not, kt_0] at q
            omega
          have b57 : IV y4 0 0 := ⟨by have q1 := b54; have q2 := kc_0; omega, by have q1 := b54; have q2 := kc_0; omega⟩
          exact J30 τ iτ fτ b_a1 b_a2 b_y3 (iv_wk b57 (by decide))
        · have f58 : 0 < y4.toInt := by
            have q : _ := c55
            simp only [ti_nle, ti_nlt, ti_le, ti_lt, ti_eq, ti_ne, Classical.not_not, kt_0] at q
            omega
          have b59 : IV y4 1 64 := ⟨by have q1 := kc_0; have q2 := b54; omega, by have q1 := kc_0; have q2 := b54; omega⟩
          refine m_aload_n C dX12_foretell_23 rfl rfl ?_
          refine m_sipush (v := 200) C dX12_foretell_24 (by decide) ?_
          have q60 := kt_200
          refine m_callV (n := 1) (ci := 11) (st := []) C (c_X12_half l G τ (200) iτ (iv_wk kc_200 (by decide)) (by omega)) (by decide) (by decide) rfl rfl rfl q5_74 q5_71 q5_73 q0_39 q1_7 (by decide +kernel) rfl (by decide) (by decide) rfl (Nat.le_of_ble_eq_true rfl) dX12_foretell_27 ?_
          rintro _ τ61 ⟨rfl, i62, f63⟩
          have g66 : Fr MS_X12_foretell AS_X12_foretell σ τ61 := Fr.call (fτ) f63 (by decide)
          show MW p l e _ s m args below meth c _ 6 G 0 0 30 [some (.ref (G.1 22 0)), some (.int a1), some (.int a2), some (.int y3), some (.int y4), none] [] τ61
          exact J30 τ61 i62 g66 b_a1 b_a2 b_y3 (iv_wk b59 (by decide))
  refine m_iconst (v := 0) C dX12_foretell_0 (by decide) ?_
  refine m_istore_n (L1 := [some (.ref (G.1 22 0)), some (.int a1), some (.int a2), some (.int 0), none, none]) C dX12_foretell_1 rfl (by decide) rfl rfl ?_
  refine m_aload_n C dX12_foretell_2 rfl rfl ?_
  refine m_ldc (v := (-1000000)) C dX12_foretell_3 q5_70 ?_
  refine p_22_17 C q4_133 dX12_foretell_5 ?_
  refine m_tops (fun τ68 eτ68 => ?_)
  have i69 : Inv τ68 := eτ68 ▸ Inv.putF hI (by decide) rfl
  have f70 : Fr MS_X12_foretell AS_X12_foretell σ τ68 := eτ68 ▸ Fr.put (Fr.rf) (Or.inl (by decide))
  refine m_iconst (v := 0) C dX12_foretell_8 (by decide) ?_
  refine m_istore (L1 := [some (.ref (G.1 22 0)), some (.int a1), some (.int a2), some (.int 0), some (.int 0), none]) C dX12_foretell_9 (by decide) rfl rfl ?_
  exact J11 ((65 - (0 : Int32).toInt).toNat + 1) τ68 0 0 i69 f70 ha1 (iv_any a2) (iv_wk kc_0 (by decide)) (iv_wk kc_0 (by decide)) (Nat.lt_succ_self _)

abbrev MS_X12_kind : List (Nat × Nat) := []
abbrev AS_X12_kind : List Nat := []
set_option maxHeartbeats 4000000 in
set_option maxRecDepth 100000 in
theorem c_X12_kind (l : Launch) (G : Gt) (σ : Sg) (a1 : Int32) (hI : Inv σ) : Mc l G yX12_kind cX12_kind 2 (some .int) 2 46 0 0 [.ref (G.1 22 0), .int a1] σ (PI fun r τ => Inv τ ∧ Fr MS_X12_kind AS_X12_kind σ τ ∧ IV r (-2147483648) 2147483647) := by
  refine Mc.of (L0 := [some (.ref (G.1 22 0)), some (.int a1)]) (by decide) (Nat.le_of_ble_eq_true rfl) rfl ?_
  intro p e s m args below meth c C hr hlk
  have C : Cx p s m args c cX12_kind 2 "LeanTowerModel" := C
  have k0 : (0 : Int32).toInt = 0 := by decide
  have k1 : (1 : Int32).toInt = 1 := by decide
  refine m_aload_n C dX12_kind_0 rfl rfl ?_
  refine m_iload_n C dX12_kind_1 rfl rfl ?_
  refine m_callV (n := 1) (ci := 11) (st := []) C (c_X12_isOne l G σ (a1) hI ) (by decide) (by decide) rfl rfl rfl q5_50 q5_47 q5_49 q0_36 q1_7 (by decide +kernel) rfl (by decide) (by decide) rfl (Nat.le_of_ble_eq_true rfl) dX12_kind_2 ?_
  rintro _ τ1 ⟨x4, rfl, i2, f3, b5, h7⟩
  have g6 : Fr MS_X12_kind AS_X12_kind σ τ1 := Fr.call (Fr.rf) f3 (by decide)
  show MW p l e _ s m args below meth c _ 2 G 0 0 5 [some (.ref (G.1 22 0)), some (.int a1)] [.int x4] τ1
  refine m_if_eq (tgt := 19) C dX12_kind_5 (by decide) (fun c8 => ?_) (fun c8 => ?_)
  · have f9 : x4.toInt = 0 := by
      have q : _ := c8
      simp only [ti_nle, ti_nlt, ti_le, ti_lt, ti_eq, ti_ne, Classical.not_not, kt_0] at q
      omega
    have b10 : IV x4 0 0 := ⟨by have q1 := b5; have q2 := kc_0; omega, by have q1 := b5; have q2 := kc_0; omega⟩
    refine m_ldc (v := (-1000001)) C dX12_kind_19 q4_192 ?_
    exact m_iret C hr hlk (by decide) (by decide) dX12_kind_21 ⟨_, rfl, i2, g6, (iv_wk kc_m1000001 (by decide))⟩
  · have f11 : x4.toInt ≠ 0 := by
      have q : _ := c8
      simp only [ti_nle, ti_nlt, ti_le, ti_lt, ti_eq, ti_ne, Classical.not_not, kt_0] at q
      omega
    have b12 : IV x4 1 1 := ⟨by have q1 := b5; have q2 := kc_0; omega, by have q1 := b5; have q2 := kc_0; omega⟩
    have b13 : IV a1 0 6 := ⟨by have q1 := (iv_any a1); omega, by have q1 := (iv_any a1); omega⟩
    refine m_aload_n C dX12_kind_8 rfl rfl ?_
    refine g_22_0 C q4_116 dX12_kind_9 ?_
    refine m_iconst (v := 3) C dX12_kind_12 (by decide) ?_
    refine m_iload_n C dX12_kind_13 rfl rfl ?_
    refine m_iadd C dX12_kind_14 ?_
    refine m_topi (fun x14 ex14 => ?_)
    have tx14 : x14.toInt = 3 + a1.toInt := by rw [ex14, ti_addv kc_3 b13 (by decide), kt_3]
    have b15 : IV x14 3 9 := by rw [ex14]; exact iv_add kc_3 b13 (by decide)
    refine al_23 C b15 (by decide) rfl dX12_kind_15 ?_
    refine m_topi (fun x16 ex16 => ?_)
    refine m_goto (tgt := 21) C dX12_kind_16 (by decide) ?_
    exact m_iret C hr hlk (by decide) (by decide) dX12_kind_21 ⟨_, rfl, i2, g6, (iv_any x16)⟩

abbrev MS_X12_isOf : List (Nat × Nat) := []
abbrev AS_X12_isOf : List Nat := []
set_option maxHeartbeats 4000000 in
set_option maxRecDepth 100000 in
theorem c_X12_isOf (l : Launch) (G : Gt) (σ : Sg) (a1 : Int32) (a2 : Int32) (hI : Inv σ) : Mc l G yX12_isOf cX12_isOf 2 (some .boolean) 0 0 0 0 [.int a1, .int a2] σ (PI fun r τ => Inv τ ∧ Fr MS_X12_isOf AS_X12_isOf σ τ ∧ IV r 0 1) := by
  refine Mc.of (L0 := [some (.int a1), some (.int a2)]) (by decide) (Nat.le_of_ble_eq_true rfl) rfl ?_
  intro p e s m args below meth c C hr hlk
  have C : Cx p s m args c cX12_isOf 2 "LeanTowerModel" := C
  have k0 : (0 : Int32).toInt = 0 := by decide
  have k1 : (1 : Int32).toInt = 1 := by decide
  have J19 : ∀ (τ : Sg), Inv τ → Fr MS_X12_isOf AS_X12_isOf σ τ → IV a1 (-2147483648) 2147483647 → IV a2 (-2147483648) 2147483647 → MW p l e { frames := 0, cells := 0, slots := 0, locals := 0 } s m args below meth c (MQ below (QP G (PI fun r τ => Inv τ ∧ Fr MS_X12_isOf AS_X12_isOf σ τ ∧ IV r 0 1)) args s 0 0 (aG G)) 2 G 0 0 19 [some (.int a1), some (.int a2)] [] τ := by
    intro τ iτ fτ b_a1 b_a2
    refine m_iload_n C dX12_isOf_19 rfl rfl ?_
    refine m_iconst (v := 4) C dX12_isOf_20 (by decide) ?_
    refine m_icmp_ne (tgt := 33) C dX12_isOf_21 (by decide) (fun c1 => ?_) (fun c1 => ?_)
    · have f2 : a2.toInt ≠ 4 := by
        have q : _ := c1
        simp only [ti_nle, ti_nlt, ti_le, ti_lt, ti_eq, ti_ne, Classical.not_not, kt_4] at q
        omega
      refine m_iconst (v := 0) C dX12_isOf_33 (by decide) ?_
      exact m_zret C hr rfl hlk (by decide) (by decide) dX12_isOf_34 ⟨_, rfl, iτ, fτ, (iv_wk kc_0 (by decide))⟩
    · have f3 : a2.toInt = 4 := by
        have q : _ := c1
        simp only [ti_nle, ti_nlt, ti_le, ti_lt, ti_eq, ti_ne, Classical.not_not, kt_4] at q
        omega
      have b4 : IV a2 4 4 := ⟨by have q1 := b_a2; have q2 := kc_4; omega, by have q1 := b_a2; have q2 := kc_4; omega⟩
      refine m_iload_n C dX12_isOf_24 rfl rfl ?_
      refine m_iconst (v := 5) C dX12_isOf_25 (by decide) ?_
      refine m_icmp_ne (tgt := 33) C dX12_isOf_26 (by decide) (fun c5 => ?_) (fun c5 => ?_)
      · have f6 : a1.toInt ≠ 5 := by
          have q : _ := c5
          simp only [ti_nle, ti_nlt, ti_le, ti_lt, ti_eq, ti_ne, Classical.not_not, kt_5] at q
          omega
        refine m_iconst (v := 0) C dX12_isOf_33 (by decide) ?_
        exact m_zret C hr rfl hlk (by decide) (by decide) dX12_isOf_34 ⟨_, rfl, iτ, fτ, (iv_wk kc_0 (by decide))⟩
      · have f7 : a1.toInt = 5 := by
          have q : _ := c5
          simp only [ti_nle, ti_nlt, ti_le, ti_lt, ti_eq, ti_ne, Classical.not_not, kt_5] at q
          omega
        have b8 : IV a1 5 5 := ⟨by have q1 := b_a1; have q2 := kc_5; omega, by have q1 := b_a1; have q2 := kc_5; omega⟩
        refine m_iconst (v := 1) C dX12_isOf_29 (by decide) ?_
        refine m_goto (tgt := 34) C dX12_isOf_30 (by decide) ?_
        exact m_zret C hr rfl hlk (by decide) (by decide) dX12_isOf_34 ⟨_, rfl, iτ, fτ, (iv_wk kc_1 (by decide))⟩
  refine m_iload_n C dX12_isOf_0 rfl rfl ?_
  refine m_if_eq (tgt := 29) C dX12_isOf_1 (by decide) (fun c9 => ?_) (fun c9 => ?_)
  · have f10 : a2.toInt = 0 := by
      have q : _ := c9
      simp only [ti_nle, ti_nlt, ti_le, ti_lt, ti_eq, ti_ne, Classical.not_not, kt_0] at q
      omega
    have b11 : IV a2 0 0 := ⟨by have q1 := (iv_any a2); have q2 := kc_0; omega, by have q1 := (iv_any a2); have q2 := kc_0; omega⟩
    refine m_iconst (v := 1) C dX12_isOf_29 (by decide) ?_
    refine m_goto (tgt := 34) C dX12_isOf_30 (by decide) ?_
    exact m_zret C hr rfl hlk (by decide) (by decide) dX12_isOf_34 ⟨_, rfl, hI, Fr.rf, (iv_wk kc_1 (by decide))⟩
  · have f12 : a2.toInt ≠ 0 := by
      have q : _ := c9
      simp only [ti_nle, ti_nlt, ti_le, ti_lt, ti_eq, ti_ne, Classical.not_not, kt_0] at q
      omega
    refine m_iload_n C dX12_isOf_4 rfl rfl ?_
    refine m_iload_n C dX12_isOf_5 rfl rfl ?_
    refine m_icmp_eq (tgt := 29) C dX12_isOf_6 (by decide) (fun c13 => ?_) (fun c13 => ?_)
    · have f14 : a1.toInt = a2.toInt := by
        have q : _ := c13
        simp only [ti_nle, ti_nlt, ti_le, ti_lt, ti_eq, ti_ne, Classical.not_not] at q
        omega
      refine m_iconst (v := 1) C dX12_isOf_29 (by decide) ?_
      refine m_goto (tgt := 34) C dX12_isOf_30 (by decide) ?_
      exact m_zret C hr rfl hlk (by decide) (by decide) dX12_isOf_34 ⟨_, rfl, hI, Fr.rf, (iv_wk kc_1 (by decide))⟩
    · have f15 : a1.toInt ≠ a2.toInt := by
        have q : _ := c13
        simp only [ti_nle, ti_nlt, ti_le, ti_lt, ti_eq, ti_ne, Classical.not_not] at q
        omega
      refine m_iload_n C dX12_isOf_9 rfl rfl ?_
      refine m_iconst (v := 1) C dX12_isOf_10 (by decide) ?_
      refine m_icmp_ne (tgt := 19) C dX12_isOf_11 (by decide) (fun c16 => ?_) (fun c16 => ?_)
      · have f17 : a2.toInt ≠ 1 := by
          have q : _ := c16
          simp only [ti_nle, ti_nlt, ti_le, ti_lt, ti_eq, ti_ne, Classical.not_not, kt_1] at q
          omega
        exact J19 σ hI Fr.rf (iv_any a1) (iv_any a2)
      · have f18 : a2.toInt = 1 := by
          have q : _ := c16
          simp only [ti_nle, ti_nlt, ti_le, ti_lt, ti_eq, ti_ne, Classical.not_not, kt_1] at q
          omega
        have b19 : IV a2 1 1 := ⟨by have q1 := (iv_any a2); have q2 := kc_1; omega, by have q1 := (iv_any a2); have q2 := kc_1; omega⟩
        refine m_iload_n C dX12_isOf_14 rfl rfl ?_
        refine m_iconst (v := 3) C dX12_isOf_15 (by decide) ?_
        refine m_icmp_le (tgt := 29) C dX12_isOf_16 (by decide) (fun c20 => ?_) (fun c20 => ?_)
        · have f21 : a1.toInt ≤ 3 := by
            have q : _ := c20
            simp only [ti_nle, ti_nlt, ti_le, ti_lt, ti_eq, ti_ne, Classical.not_not, kt_3] at q
            omega
          have b22 : IV a1 (-2147483648) 3 := ⟨by have q1 := (iv_any a1); have q2 := kc_3; omega, by have q1 := (iv_any a1); have q2 := kc_3; omega⟩
          refine m_iconst (v := 1) C dX12_isOf_29 (by decide) ?_
          refine m_goto (tgt := 34) C dX12_isOf_30 (by decide) ?_
          exact m_zret C hr rfl hlk (by decide) (by decide) dX12_isOf_34 ⟨_, rfl, hI, Fr.rf, (iv_wk kc_1 (by decide))⟩
        · have f23 : 3 < a1.toInt := by
            have q : _ := c20
            simp only [ti_nle, ti_nlt, ti_le, ti_lt, ti_eq, ti_ne, Classical.not_not, kt_3] at q
            omega
          have b24 : IV a1 4 2147483647 := ⟨by have q1 := kc_3; have q2 := (iv_any a1); omega, by have q1 := kc_3; have q2 := (iv_any a1); omega⟩
          exact J19 σ hI Fr.rf (iv_wk b24 (by decide)) (iv_wk b19 (by decide))

abbrev MS_X12_as : List (Nat × Nat) := [(22, 8)]
abbrev AS_X12_as : List Nat := []
set_option maxHeartbeats 4000000 in
set_option maxRecDepth 100000 in
theorem c_X12_as (l : Launch) (G : Gt) (σ : Sg) (a1 : Int32) (a2 : Int32) (hI : Inv σ) : Mc l G yX12_as cX12_as 3 (some .int) 2 46 0 0 [.ref (G.1 22 0), .int a1, .int a2] σ (PI fun r τ => Inv τ ∧ Fr MS_X12_as AS_X12_as σ τ ∧ IV r (-2147483648) 2147483647) := by
  refine Mc.of (L0 := [some (.ref (G.1 22 0)), some (.int a1), some (.int a2)]) (by decide) (Nat.le_of_ble_eq_true rfl) rfl ?_
  intro p e s m args below meth c C hr hlk
  have C : Cx p s m args c cX12_as 3 "LeanTowerModel" := C
  have k0 : (0 : Int32).toInt = 0 := by decide
  have k1 : (1 : Int32).toInt = 1 := by decide
  refine m_aload_n C dX12_as_0 rfl rfl ?_
  refine m_iload_n C dX12_as_1 rfl rfl ?_
  refine m_callV (n := 1) (ci := 11) (st := []) C (c_X12_isOne l G σ (a1) hI ) (by decide) (by decide) rfl rfl rfl q5_50 q5_47 q5_49 q0_36 q1_7 (by decide +kernel) rfl (by decide) (by decide) rfl (Nat.le_of_ble_eq_true rfl) dX12_as_2 ?_
  rintro _ τ1 ⟨x4, rfl, i2, f3, b5, h7⟩
  have g6 : Fr MS_X12_as AS_X12_as σ τ1 := Fr.call (Fr.rf) f3 (by decide)
  show MW p l e _ s m args below meth c _ 3 G 0 0 5 [some (.ref (G.1 22 0)), some (.int a1), some (.int a2)] [.int x4] τ1
  refine m_if_eq (tgt := 20) C dX12_as_5 (by decide) (fun c8 => ?_) (fun c8 => ?_)
  · have f9 : x4.toInt = 0 := by
      have q : _ := c8
      simp only [ti_nle, ti_nlt, ti_le, ti_lt, ti_eq, ti_ne, Classical.not_not, kt_0] at q
      omega
    have b10 : IV x4 0 0 := ⟨by have q1 := b5; have q2 := kc_0; omega, by have q1 := b5; have q2 := kc_0; omega⟩
    refine m_ldc (v := (-1000001)) C dX12_as_20 q4_192 ?_
    exact m_iret C hr hlk (by decide) (by decide) dX12_as_22 ⟨_, rfl, i2, g6, (iv_wk kc_m1000001 (by decide))⟩
  · have f11 : x4.toInt ≠ 0 := by
      have q : _ := c8
      simp only [ti_nle, ti_nlt, ti_le, ti_lt, ti_eq, ti_ne, Classical.not_not, kt_0] at q
      omega
    have b12 : IV x4 1 1 := ⟨by have q1 := b5; have q2 := kc_0; omega, by have q1 := b5; have q2 := kc_0; omega⟩
    have b13 : IV a1 0 6 := ⟨by have q1 := (iv_any a1); omega, by have q1 := (iv_any a1); omega⟩
    refine m_iload_n C dX12_as_8 rfl rfl ?_
    refine m_i2l C dX12_as_9 ?_
    refine m_lconst (v := 0) C dX12_as_10 (by decide) ?_
    refine m_ldc2 (v := 5) C dX12_as_11 q5_173 ?_
    refine m_callS (n := 3) (st := []) C (c_X12_in l G τ1 ((a2 : Int32).toInt64) (0) (5) i2 ) q4_190 q4_188 q4_189 q1_7 (by decide +kernel) rfl (by decide) (by decide) rfl (Nat.le_of_ble_eq_true rfl) dX12_as_14 ?_
    rintro _ τ14 ⟨x17, rfl, i15, f16, b18, h20⟩
    have g19 : Fr MS_X12_as AS_X12_as σ τ14 := Fr.call (g6) f16 (by decide)
    have f21 := tl_i a2
    have f22 := kl_0
    have f23 := kl_5
    show MW p l e _ s m args below meth c _ 3 G 0 0 17 [some (.ref (G.1 22 0)), some (.int a1), some (.int a2)] [.int x17] τ14
    refine m_if_ne (tgt := 23) C dX12_as_17 (by decide) (fun c24 => ?_) (fun c24 => ?_)
    · have f25 : x17.toInt ≠ 0 := by
        have q : _ := c24
        simp only [ti_nle, ti_nlt, ti_le, ti_lt, ti_eq, ti_ne, Classical.not_not, kt_0] at q
        omega
      have b26 : IV x17 1 1 := ⟨by have q1 := b18; have q2 := kc_0; omega, by have q1 := b18; have q2 := kc_0; omega⟩
      have b27 : IV a2 0 5 := ⟨by have q1 := (iv_any a2); omega, by have q1 := (iv_any a2); omega⟩
      refine m_aload_n C dX12_as_23 rfl rfl ?_
      refine g_22_0 C q4_116 dX12_as_24 ?_
      refine m_iconst (v := 3) C dX12_as_27 (by decide) ?_
      refine m_iload_n C dX12_as_28 rfl rfl ?_
      refine m_iadd C dX12_as_29 ?_
      refine m_topi (fun x28 ex28 => ?_)
      have tx28 : x28.toInt = 3 + a1.toInt := by rw [ex28, ti_addv kc_3 b13 (by decide), kt_3]
      have b29 : IV x28 3 9 := by rw [ex28]; exact iv_add kc_3 b13 (by decide)
      refine al_23 C b29 (by decide) rfl dX12_as_30 ?_
      refine m_topi (fun x30 ex30 => ?_)
      refine m_iload_n C dX12_as_31 rfl rfl ?_
      refine m_callS (n := 2) (st := []) C (c_X12_isOf l G τ14 (x30) (a2) i15 ) q5_193 q5_191 q5_192 q1_7 (by decide +kernel) rfl (by decide) (by decide) rfl (Nat.le_of_ble_eq_true rfl) dX12_as_32 ?_
      rintro _ τ31 ⟨x34, rfl, i32, f33, b35⟩
      have g36 : Fr MS_X12_as AS_X12_as σ τ31 := Fr.call (g19) f33 (by decide)
      show MW p l e _ s m args below meth c _ 3 G 0 0 35 [some (.ref (G.1 22 0)), some (.int a1), some (.int a2)] [.int x34] τ31
      refine m_if_eq (tgt := 46) C dX12_as_35 (by decide) (fun c38 => ?_) (fun c38 => ?_)
      · have f39 : x34.toInt = 0 := by
          have q : _ := c38
          simp only [ti_nle, ti_nlt, ti_le, ti_lt, ti_eq, ti_ne, Classical.not_not, kt_0] at q
          omega
        have b40 : IV x34 0 0 := ⟨by have q1 := b35; have q2 := kc_0; omega, by have q1 := b35; have q2 := kc_0; omega⟩
        refine m_aload_n C dX12_as_46 rfl rfl ?_
        refine m_iconst (v := 3) C dX12_as_47 (by decide) ?_
        refine m_callV (n := 1) (ci := 11) (st := []) C (c_X12_met l G τ31 (3) i32 (iv_wk kc_3 (by decide))) (by decide) (by decide) rfl rfl rfl q4_196 q4_193 q4_195 q0_26 q1_7 (by decide +kernel) rfl (by decide) (by decide) rfl (Nat.le_of_ble_eq_true rfl) dX12_as_48 ?_
        rintro _ τ41 ⟨x44, rfl, i42, f43, b45, h47⟩
        have g46 : Fr MS_X12_as AS_X12_as σ τ41 := Fr.call (g36) f43 (by decide)
        have q48 := kt_3
        show MW p l e _ s m args below meth c _ 3 G 0 0 51 [some (.ref (G.1 22 0)), some (.int a1), some (.int a2)] [.int x44] τ41
        exact m_iret C hr hlk (by decide) (by decide) dX12_as_51 ⟨_, rfl, i42, g46, (iv_wk b45 (by decide))⟩
      · have f49 : x34.toInt ≠ 0 := by
          have q : _ := c38
          simp only [ti_nle, ti_nlt, ti_le, ti_lt, ti_eq, ti_ne, Classical.not_not, kt_0] at q
          omega
        have b50 : IV x34 1 1 := ⟨by have q1 := b35; have q2 := kc_0; omega, by have q1 := b35; have q2 := kc_0; omega⟩
        refine m_aload_n C dX12_as_38 rfl rfl ?_
        refine m_iload_n C dX12_as_39 rfl rfl ?_
        refine m_callV (n := 1) (ci := 11) (st := []) C (c_X12_fine l G τ31 (a1) i32 ) (by decide) (by decide) rfl rfl rfl q4_201 q4_198 q4_200 q0_27 q1_7 (by decide +kernel) rfl (by decide) (by decide) rfl (Nat.le_of_ble_eq_true rfl) dX12_as_40 ?_
        rintro _ τ51 ⟨x54, rfl, i52, f53, b55, h57⟩
        have g56 : Fr MS_X12_as AS_X12_as σ τ51 := Fr.call (g36) f53 (by decide)
        show MW p l e _ s m args below meth c _ 3 G 0 0 43 [some (.ref (G.1 22 0)), some (.int a1), some (.int a2)] [.int x54] τ51
        refine m_goto (tgt := 51) C dX12_as_43 (by decide) ?_
        exact m_iret C hr hlk (by decide) (by decide) dX12_as_51 ⟨_, rfl, i52, g56, b55⟩
    · have f58 : x17.toInt = 0 := by
        have q : _ := c24
        simp only [ti_nle, ti_nlt, ti_le, ti_lt, ti_eq, ti_ne, Classical.not_not, kt_0] at q
        omega
      have b59 : IV x17 0 0 := ⟨by have q1 := b18; have q2 := kc_0; omega, by have q1 := b18; have q2 := kc_0; omega⟩
      refine m_ldc (v := (-1000001)) C dX12_as_20 q4_192 ?_
      exact m_iret C hr hlk (by decide) (by decide) dX12_as_22 ⟨_, rfl, i15, g19, (iv_wk kc_m1000001 (by decide))⟩

abbrev MS_X12_trace : List (Nat × Nat) := []
abbrev AS_X12_trace : List Nat := []
set_option maxHeartbeats 4000000 in
set_option maxRecDepth 100000 in
theorem c_X12_trace (l : Launch) (G : Gt) (σ : Sg) (a1 : Int32) (hI : Inv σ) : Mc l G yX12_trace cX12_trace 2 (some .int) 1 25 0 0 [.ref (G.1 22 0), .int a1] σ (PI fun r τ => Inv τ ∧ Fr MS_X12_trace AS_X12_trace σ τ ∧ IV r (-2147483648) 2147483647) := by
  refine Mc.of (L0 := [some (.ref (G.1 22 0)), some (.int a1)]) (by decide) (Nat.le_of_ble_eq_true rfl) rfl ?_
  intro p e s m args below meth c C hr hlk
  have C : Cx p s m args c cX12_trace 2 "LeanTowerModel" := C
  have k0 : (0 : Int32).toInt = 0 := by decide
  have k1 : (1 : Int32).toInt = 1 := by decide
  refine m_iload_n C dX12_trace_0 rfl rfl ?_
  refine m_i2l C dX12_trace_1 ?_
  refine m_lconst (v := 0) C dX12_trace_2 (by decide) ?_
  refine m_aload_n C dX12_trace_3 rfl rfl ?_
  refine g_22_20 C q4_136 dX12_trace_4 ?_
  refine m_topi (fun x1 ex1 => ?_)
  have b2 : IV x1 0 13 := by rw [ex1]; exact hI.1 22 0 20
  refine m_iconst (v := 1) C dX12_trace_7 (by decide) ?_
  refine m_isub C dX12_trace_8 ?_
  refine m_topi (fun x3 ex3 => ?_)
  have tx3 : x3.toInt = x1.toInt - 1 := by rw [ex3, ti_subv b2 kc_1 (by decide), kt_1]
  have b4 : IV x3 (-1) 12 := by rw [ex3]; exact iv_sub b2 kc_1 (by decide)
  refine m_i2l C dX12_trace_9 ?_
  refine m_callS (n := 3) (st := []) C (c_X12_in l G σ ((a1 : Int32).toInt64) (0) ((x3 : Int32).toInt64) hI ) q4_190 q4_188 q4_189 q1_7 (by decide +kernel) rfl (by decide) (by decide) rfl (Nat.le_of_ble_eq_true rfl) dX12_trace_10 ?_
  rintro _ τ5 ⟨x8, rfl, i6, f7, b9, h11⟩
  have g10 : Fr MS_X12_trace AS_X12_trace σ τ5 := Fr.call (Fr.rf) f7 (by decide)
  have f12 := tl_i a1
  have f13 := kl_0
  have f14 := tl_i x3
  have q15 := b4
  show MW p l e _ s m args below meth c _ 2 G 0 0 13 [some (.ref (G.1 22 0)), some (.int a1)] [.int x8] τ5
  refine m_if_eq (tgt := 25) C dX12_trace_13 (by decide) (fun c16 => ?_) (fun c16 => ?_)
  · have f17 : x8.toInt = 0 := by
      have q : _ := c16
      simp only [ti_nle, ti_nlt, ti_le, ti_lt, ti_eq, ti_ne, Classical.not_not, kt_0] at q
      omega
    have b18 : IV x8 0 0 := ⟨by have q1 := b9; have q2 := kc_0; omega, by have q1 := b9; have q2 := kc_0; omega⟩
    refine m_ldc (v := (-1000000)) C dX12_trace_25 q5_70 ?_
    exact m_iret C hr hlk (by decide) (by decide) dX12_trace_27 ⟨_, rfl, i6, g10, (iv_wk kc_m1000000 (by decide))⟩
  · have f19 : x8.toInt ≠ 0 := by
      have q : _ := c16
      simp only [ti_nle, ti_nlt, ti_le, ti_lt, ti_eq, ti_ne, Classical.not_not, kt_0] at q
      omega
    have b20 : IV x8 1 1 := ⟨by have q1 := b9; have q2 := kc_0; omega, by have q1 := b9; have q2 := kc_0; omega⟩
    have b21 : IV a1 0 12 := ⟨by have q1 := (iv_any a1); omega, by have q1 := (iv_any a1); omega⟩
    refine m_aload_n C dX12_trace_16 rfl rfl ?_
    refine g_22_19 C q4_135 dX12_trace_17 ?_
    refine m_iload_n C dX12_trace_20 rfl rfl ?_
    refine al_31 C b21 (by decide) rfl dX12_trace_21 ?_
    refine m_topi (fun x22 ex22 => ?_)
    refine m_goto (tgt := 27) C dX12_trace_22 (by decide) ?_
    exact m_iret C hr hlk (by decide) (by decide) dX12_trace_27 ⟨_, rfl, i6, g10, (iv_any x22)⟩

abbrev MS_X12_count : List (Nat × Nat) := []
abbrev AS_X12_count : List Nat := []
set_option maxHeartbeats 4000000 in
set_option maxRecDepth 100000 in
theorem c_X12_count (l : Launch) (G : Gt) (σ : Sg) (a1 : Int32) (hI : Inv σ) : Mc l G yX12_count cX12_count 5 (some .int) 0 0 0 0 [.ref (G.1 22 0), .int a1] σ (PI fun r τ => Inv τ ∧ Fr MS_X12_count AS_X12_count σ τ ∧ IV r (-2147483648) 2147483647) := by
  refine Mc.of (L0 := [some (.ref (G.1 22 0)), some (.int a1), none, none, none]) (by decide) (Nat.le_of_ble_eq_true rfl) rfl ?_
  intro p e s m args below meth c C hr hlk
  have C : Cx p s m args c cX12_count 5 "LeanTowerModel" := C
  have k0 : (0 : Int32).toInt = 0 := by decide
  have k1 : (1 : Int32).toInt = 1 := by decide
  have J38 : ∀ (n : Nat) (τ : Sg) (y2 : Int32) (y3 : Int32) (y4 : Int32), Inv τ → Fr MS_X12_count AS_X12_count σ τ → IV a1 (-2147483648) 2147483647 → IV y2 (-2147483648) 2147483647 → IV y3 (-2147483648) 2147483647 → IV y4 0 7 → (7 - y4.toInt).toNat < n → MW p l e { frames := 0, cells := 0, slots := 0, locals := 0 } s m args below meth c (MQ below (QP G (PI fun r τ => Inv τ ∧ Fr MS_X12_count AS_X12_count σ τ ∧ IV r (-2147483648) 2147483647)) args s 0 0 (aG G)) 5 G 0 0 38 [some (.ref (G.1 22 0)), some (.int a1), some (.int y2), some (.int y3), some (.int y4)] [] τ := by
    intro n
    induction n with
    | zero => intro τ y2 y3 y4 iτ fτ b_a1 b_y2 b_y3 b_y4 hm; exact absurd hm (Nat.not_lt_zero _)
    | succ n ih38 =>
      intro τ y2 y3 y4 iτ fτ b_a1 b_y2 b_y3 b_y4 hm38
      refine m_iload C dX12_count_38 rfl ?_
      refine m_aload_n C dX12_count_40 rfl rfl ?_
      refine g_22_0 C q4_116 dX12_count_41 ?_
      refine m_iconst (v := 2) C dX12_count_44 (by decide) ?_
      refine al_23 C kc_2 (by decide) kn_2 dX12_count_45 ?_
      refine m_topi (fun x1 ex1 => ?_)
      have b2 : IV x1 0 7 := by rw [ex1]; exact iτ.1 23 0 2
      refine m_icmp_ge (tgt := 76) C dX12_count_46 (by decide) (fun c3 => ?_) (fun c3 => ?_)
      · have f4 : x1.toInt ≤ y4.toInt := by
          have q : _ := c3
          simp only [ti_nle, ti_nlt, ti_le, ti_lt, ti_eq, ti_ne, Classical.not_not] at q
          omega
        refine m_iload_n C dX12_count_76 rfl rfl ?_
        by_cases s5 : a1.toInt < 0 ∨ 6 < a1.toInt
        · refine m_tableOut (tgt := 157) C dX12_count_77 s5 (by decide) ?_
          refine m_ldc (v := (-1000001)) C dX12_count_157 q4_192 ?_
          exact m_iret C hr hlk (by decide) (by decide) dX12_count_159 ⟨_, rfl, iτ, fτ, (iv_wk kc_m1000001 (by decide))⟩
        by_cases s6 : a1.toInt = 0
        · refine m_tableIn (tgt := 120) (off := 43) C dX12_count_77 (by omega) (by omega) (by rw [s6]; rfl) (by decide) ?_
          have b7 : IV a1 0 0 := ⟨by omega, by omega⟩
          refine m_iload_n C dX12_count_120 rfl rfl ?_
          exact m_iret C hr hlk (by decide) (by decide) dX12_count_121 ⟨_, rfl, iτ, fτ, b_y2⟩
        by_cases s8 : a1.toInt = 1
        · refine m_tableIn (tgt := 122) (off := 45) C dX12_count_77 (by omega) (by omega) (by rw [s8]; rfl) (by decide) ?_
          have b9 : IV a1 1 1 := ⟨by omega, by omega⟩
          refine m_aload_n C dX12_count_122 rfl rfl ?_
          refine g_22_0 C q4_116 dX12_count_123 ?_
          refine m_iconst (v := 2) C dX12_count_126 (by decide) ?_
          refine al_23 C kc_2 (by decide) kn_2 dX12_count_127 ?_
          refine m_eqs (w := x1) ex1.symm ?_
          exact m_iret C hr hlk (by decide) (by decide) dX12_count_128 ⟨_, rfl, iτ, fτ, (iv_wk b2 (by decide))⟩
        by_cases s10 : a1.toInt = 2
        · refine m_tableIn (tgt := 129) (off := 52) C dX12_count_77 (by omega) (by omega) (by rw [s10]; rfl) (by decide) ?_
          have b11 : IV a1 2 2 := ⟨by omega, by omega⟩
          refine m_aload_n C dX12_count_129 rfl rfl ?_
          refine g_22_0 C q4_116 dX12_count_130 ?_
          refine m_bipush (v := 38) C dX12_count_133 (by decide) ?_
          refine al_23 C kc_38 (by decide) kn_38 dX12_count_135 ?_
          refine m_topi (fun x12 ex12 => ?_)
          have b13 : IV x12 0 4 := by rw [ex12]; exact iτ.1 23 0 38
          exact m_iret C hr hlk (by decide) (by decide) dX12_count_136 ⟨_, rfl, iτ, fτ, (iv_wk b13 (by decide))⟩
        by_cases s14 : a1.toInt = 3
        · refine m_tableIn (tgt := 137) (off := 60) C dX12_count_77 (by omega) (by omega) (by rw [s14]; rfl) (by decide) ?_
          have b15 : IV a1 3 3 := ⟨by omega, by omega⟩
          refine m_aload_n C dX12_count_137 rfl rfl ?_
          refine g_22_0 C q4_116 dX12_count_138 ?_
          refine m_bipush (v := 47) C dX12_count_141 (by decide) ?_
          refine al_23 C kc_47 (by decide) kn_47 dX12_count_143 ?_
          refine m_topi (fun x16 ex16 => ?_)
          exact m_iret C hr hlk (by decide) (by decide) dX12_count_144 ⟨_, rfl, iτ, fτ, (iv_any x16)⟩
        by_cases s17 : a1.toInt = 4
        · refine m_tableIn (tgt := 145) (off := 68) C dX12_count_77 (by omega) (by omega) (by rw [s17]; rfl) (by decide) ?_
          have b18 : IV a1 4 4 := ⟨by omega, by omega⟩
          refine m_aload_n C dX12_count_145 rfl rfl ?_
          refine g_22_9 C q4_125 dX12_count_146 ?_
          refine m_topi (fun x19 ex19 => ?_)
          have b20 : IV x19 0 24 := by rw [ex19]; exact iτ.1 22 0 9
          exact m_iret C hr hlk (by decide) (by decide) dX12_count_149 ⟨_, rfl, iτ, fτ, (iv_wk b20 (by decide))⟩
        by_cases s21 : a1.toInt = 5
        · refine m_tableIn (tgt := 150) (off := 73) C dX12_count_77 (by omega) (by omega) (by rw [s21]; rfl) (by decide) ?_
          have b22 : IV a1 5 5 := ⟨by omega, by omega⟩
          refine m_iload_n C dX12_count_150 rfl rfl ?_
          exact m_iret C hr hlk (by decide) (by decide) dX12_count_151 ⟨_, rfl, iτ, fτ, b_y3⟩
        by_cases s23 : a1.toInt = 6
        · refine m_tableIn (tgt := 152) (off := 75) C dX12_count_77 (by omega) (by omega) (by rw [s23]; rfl) (by decide) ?_
          have b24 : IV a1 6 6 := ⟨by omega, by omega⟩
          refine m_aload_n C dX12_count_152 rfl rfl ?_
          refine g_22_6 C q4_122 dX12_count_153 ?_
          refine m_topi (fun x25 ex25 => ?_)
          have b26 : IV x25 0 400 := by rw [ex25]; exact iτ.1 22 0 6
          exact m_iret C hr hlk (by decide) (by decide) dX12_count_156 ⟨_, rfl, iτ, fτ, (iv_wk b26 (by decide))⟩
        exact absurd s5 (by omega)
      · have f27 : y4.toInt < x1.toInt := by
          have q : _ := c3
          simp only [ti_nle, ti_nlt, ti_le, ti_lt, ti_eq, ti_ne, Classical.not_not] at q
          omega
        have b28 : IV y4 0 6 := ⟨by have q1 := b_y4; have q2 := b2; omega, by have q1 := b_y4; have q2 := b2; omega⟩
        have b29 : IV x1 1 7 := ⟨by have q1 := b_y4; have q2 := b2; omega, by have q1 := b_y4; have q2 := b2; omega⟩
        refine m_iload_n C dX12_count_49 rfl rfl ?_
        refine m_aload_n C dX12_count_50 rfl rfl ?_
        refine g_22_0 C q4_116 dX12_count_51 ?_
        refine m_bipush (v := 24) C dX12_count_54 (by decide) ?_
        refine m_iload C dX12_count_56 rfl ?_
        refine m_iadd C dX12_count_58 ?_
        refine m_topi (fun x30 ex30 => ?_)
        have tx30 : x30.toInt = 24 + y4.toInt := by rw [ex30, ti_addv kc_24 b28 (by decide), kt_24]
        have b31 : IV x30 24 30 := by rw [ex30]; exact iv_add kc_24 b28 (by decide)
        refine al_23 C b31 (by decide) rfl dX12_count_59 ?_
        refine m_topi (fun x32 ex32 => ?_)
        refine m_if_lt (tgt := 67) C dX12_count_60 (by decide) (fun c33 => ?_) (fun c33 => ?_)
        · have f34 : x32.toInt < 0 := by
            have q : _ := c33
            simp only [ti_nle, ti_nlt, ti_le, ti_lt, ti_eq, ti_ne, Classical.not_not, kt_0] at q
            omega
          have b35 : IV x32 (-2147483648) (-1) := ⟨by have q1 := (iv_any x32); have q2 := kc_0; omega, by have q1 := (iv_any x32); have q2 := kc_0; omega⟩
          refine m_iconst (v := 0) C dX12_count_67 (by decide) ?_
          refine m_iadd C dX12_count_68 ?_
          refine m_topi (fun x36 ex36 => ?_)
          have tx36 : x36.toInt = y3.toInt + 0 := by rw [ex36, ti_addv b_y3 kc_0 (by decide), kt_0]
          have b37 : IV x36 (-2147483648) 2147483647 := by rw [ex36]; exact iv_add b_y3 kc_0 (by decide)
          refine m_istore_n (L1 := [some (.ref (G.1 22 0)), some (.int a1), some (.int y2), some (.int x36), some (.int y4)]) C dX12_count_69 rfl (by decide) rfl rfl ?_
          obtain ⟨x38, ex38⟩ : ∃ y : Int32, y = y4 + 1 := ⟨_, rfl⟩
          have tx38 : x38.toInt = y4.toInt + 1 := by rw [ex38, ti_addv b28 kc_1 (by decide), kt_1]
          have b39 : IV x38 1 7 := by rw [ex38]; exact iv_add b28 kc_1 (by decide)
          refine m_iinc (v := x38) (L1 := [some (.ref (G.1 22 0)), some (.int a1), some (.int y2), some (.int x36), some (.int x38)]) C dX12_count_70 rfl (by rw [ex38]; rfl) (by decide) rfl rfl ?_
          refine m_goto (tgt := 38) C dX12_count_73 (by decide) ?_
          exact ih38 τ y2 x36 x38 iτ fτ b_a1 b_y2 b37 (iv_wk b39 (by decide)) (by have q := hm38; omega)
        · have f40 : 0 ≤ x32.toInt := by
            have q : _ := c33
            simp only [ti_nle, ti_nlt, ti_le, ti_lt, ti_eq, ti_ne, Classical.not_not, kt_0] at q
            omega
          have b41 : IV x32 0 2147483647 := ⟨by have q1 := kc_0; have q2 := (iv_any x32); omega, by have q1 := kc_0; have q2 := (iv_any x32); omega⟩
          refine m_iconst (v := 1) C dX12_count_63 (by decide) ?_
          refine m_goto (tgt := 68) C dX12_count_64 (by decide) ?_
          refine m_iadd C dX12_count_68 ?_
          refine m_topi (fun x42 ex42 => ?_)
          refine m_istore_n (L1 := [some (.ref (G.1 22 0)), some (.int a1), some (.int y2), some (.int x42), some (.int y4)]) C dX12_count_69 rfl (by decide) rfl rfl ?_
          obtain ⟨x43, ex43⟩ : ∃ y : Int32, y = y4 + 1 := ⟨_, rfl⟩
          have tx43 : x43.toInt = y4.toInt + 1 := by rw [ex43, ti_addv b28 kc_1 (by decide), kt_1]
          have b44 : IV x43 1 7 := by rw [ex43]; exact iv_add b28 kc_1 (by decide)
          refine m_iinc (v := x43) (L1 := [some (.ref (G.1 22 0)), some (.int a1), some (.int y2), some (.int x42), some (.int x43)]) C dX12_count_70 rfl (by rw [ex43]; rfl) (by decide) rfl rfl ?_
          refine m_goto (tgt := 38) C dX12_count_73 (by decide) ?_
          exact ih38 τ y2 x42 x43 iτ fτ b_a1 b_y2 (iv_any x42) (iv_wk b44 (by decide)) (by have q := hm38; omega)
  have J4 : ∀ (n : Nat) (τ : Sg) (y2 : Int32) (y3 : Int32), Inv τ → Fr MS_X12_count AS_X12_count σ τ → IV a1 (-2147483648) 2147483647 → IV y2 (-2147483648) 2147483647 → IV y3 0 8 → (8 - y3.toInt).toNat < n → MW p l e { frames := 0, cells := 0, slots := 0, locals := 0 } s m args below meth c (MQ below (QP G (PI fun r τ => Inv τ ∧ Fr MS_X12_count AS_X12_count σ τ ∧ IV r (-2147483648) 2147483647)) args s 0 0 (aG G)) 5 G 0 0 4 [some (.ref (G.1 22 0)), some (.int a1), some (.int y2), some (.int y3), none] [] τ := by
    intro n
    induction n with
    | zero => intro τ y2 y3 iτ fτ b_a1 b_y2 b_y3 hm; exact absurd hm (Nat.not_lt_zero _)
    | succ n ih4 =>
      intro τ y2 y3 iτ fτ b_a1 b_y2 b_y3 hm4
      refine m_iload_n C dX12_count_4 rfl rfl ?_
      refine m_bipush (v := 8) C dX12_count_5 (by decide) ?_
      refine m_icmp_ge (tgt := 33) C dX12_count_7 (by decide) (fun c45 => ?_) (fun c45 => ?_)
      · have f46 : 8 ≤ y3.toInt := by
          have q : _ := c45
          simp only [ti_nle, ti_nlt, ti_le, ti_lt, ti_eq, ti_ne, Classical.not_not, kt_8] at q
          omega
        have b47 : IV y3 8 8 := ⟨by have q1 := kc_8; have q2 := b_y3; omega, by have q1 := kc_8; have q2 := b_y3; omega⟩
        refine m_iconst (v := 0) C dX12_count_33 (by decide) ?_
        refine m_istore_n (L1 := [some (.ref (G.1 22 0)), some (.int a1), some (.int y2), some (.int 0), none]) C dX12_count_34 rfl (by decide) rfl rfl ?_
        refine m_iconst (v := 0) C dX12_count_35 (by decide) ?_
        refine m_istore (L1 := [some (.ref (G.1 22 0)), some (.int a1), some (.int y2), some (.int 0), some (.int 0)]) C dX12_count_36 (by decide) rfl rfl ?_
        exact J38 ((7 - (0 : Int32).toInt).toNat + 1) τ y2 0 0 iτ fτ b_a1 b_y2 (iv_wk kc_0 (by decide)) (iv_wk kc_0 (by decide)) (Nat.lt_succ_self _)
      · have f48 : y3.toInt < 8 := by
          have q : _ := c45
          simp only [ti_nle, ti_nlt, ti_le, ti_lt, ti_eq, ti_ne, Classical.not_not, kt_8] at q
          omega
        have b49 : IV y3 0 7 := ⟨by have q1 := b_y3; have q2 := kc_8; omega, by have q1 := b_y3; have q2 := kc_8; omega⟩
        refine m_iload_n C dX12_count_10 rfl rfl ?_
        refine m_aload_n C dX12_count_11 rfl rfl ?_
        refine g_22_3 C q4_119 dX12_count_12 ?_
        refine m_iload_n C dX12_count_15 rfl rfl ?_
        refine al_26 C b49 (by decide) rfl dX12_count_16 ?_
        refine m_topi (fun x50 ex50 => ?_)
        refine m_if_lt (tgt := 24) C dX12_count_17 (by decide) (fun c51 => ?_) (fun c51 => ?_)
        · have f52 : x50.toInt < 0 := by
            have q : _ := c51
            simp only [ti_nle, ti_nlt, ti_le, ti_lt, ti_eq, ti_ne, Classical.not_not, kt_0] at q
            omega
          have b53 : IV x50 (-2147483648) (-1) := ⟨by have q1 := (iv_any x50); have q2 := kc_0; omega, by have q1 := (iv_any x50); have q2 := kc_0; omega⟩
          refine m_iconst (v := 0) C dX12_count_24 (by decide) ?_
          refine m_iadd C dX12_count_25 ?_
          refine m_topi (fun x54 ex54 => ?_)
          have tx54 : x54.toInt = y2.toInt + 0 := by rw [ex54, ti_addv b_y2 kc_0 (by decide), kt_0]
          have b55 : IV x54 (-2147483648) 2147483647 := by rw [ex54]; exact iv_add b_y2 kc_0 (by decide)
          refine m_istore_n (L1 := [some (.ref (G.1 22 0)), some (.int a1), some (.int x54), some (.int y3), none]) C dX12_count_26 rfl (by decide) rfl rfl ?_
          obtain ⟨x56, ex56⟩ : ∃ y : Int32, y = y3 + 1 := ⟨_, rfl⟩
          have tx56 : x56.toInt = y3.toInt + 1 := by rw [ex56, ti_addv b49 kc_1 (by decide), kt_1]
          have b57 : IV x56 1 8 := by rw [ex56]; exact iv_add b49 kc_1 (by decide)
          refine m_iinc (v := x56) (L1 := [some (.ref (G.1 22 0)), some (.int a1), some (.int x54), some (.int x56), none]) C dX12_count_27 rfl (by rw [ex56]; rfl) (by decide) rfl rfl ?_
          refine m_goto (tgt := 4) C dX12_count_30 (by decide) ?_
          exact ih4 τ x54 x56 iτ fτ b_a1 b55 (iv_wk b57 (by decide)) (by have q := hm4; omega)
        · have f58 : 0 ≤ x50.toInt := by
            have q : _ := c51
            simp only [ti_nle, ti_nlt, ti_le, ti_lt, ti_eq, ti_ne, Classical.not_not, kt_0] at q
            omega
          have b59 : IV x50 0 2147483647 := ⟨by have q1 := kc_0; have q2 := (iv_any x50); omega, by have q1 := kc_0; have q2 := (iv_any x50); omega⟩
          refine m_iconst (v := 1) C dX12_count_20 (by decide) ?_
          refine m_goto (tgt := 25) C dX12_count_21 (by decide) ?_
          refine m_iadd C dX12_count_25 ?_
          refine m_topi (fun x60 ex60 => ?_)
          refine m_istore_n (L1 := [some (.ref (G.1 22 0)), some (.int a1), some (.int x60), some (.int y3), none]) C dX12_count_26 rfl (by decide) rfl rfl ?_
          obtain ⟨x61, ex61⟩ : ∃ y : Int32, y = y3 + 1 := ⟨_, rfl⟩
          have tx61 : x61.toInt = y3.toInt + 1 := by rw [ex61, ti_addv b49 kc_1 (by decide), kt_1]
          have b62 : IV x61 1 8 := by rw [ex61]; exact iv_add b49 kc_1 (by decide)
          refine m_iinc (v := x61) (L1 := [some (.ref (G.1 22 0)), some (.int a1), some (.int x60), some (.int x61), none]) C dX12_count_27 rfl (by rw [ex61]; rfl) (by decide) rfl rfl ?_
          refine m_goto (tgt := 4) C dX12_count_30 (by decide) ?_
          exact ih4 τ x60 x61 iτ fτ b_a1 (iv_any x60) (iv_wk b62 (by decide)) (by have q := hm4; omega)
  refine m_iconst (v := 0) C dX12_count_0 (by decide) ?_
  refine m_istore_n (L1 := [some (.ref (G.1 22 0)), some (.int a1), some (.int 0), none, none]) C dX12_count_1 rfl (by decide) rfl rfl ?_
  refine m_iconst (v := 0) C dX12_count_2 (by decide) ?_
  refine m_istore_n (L1 := [some (.ref (G.1 22 0)), some (.int a1), some (.int 0), some (.int 0), none]) C dX12_count_3 rfl (by decide) rfl rfl ?_
  exact J4 ((8 - (0 : Int32).toInt).toNat + 1) σ 0 0 hI Fr.rf (iv_any a1) (iv_wk kc_0 (by decide)) (iv_wk kc_0 (by decide)) (Nat.lt_succ_self _)

abbrev MS_X12_isSafe : List (Nat × Nat) := []
abbrev AS_X12_isSafe : List Nat := [23]
set_option maxHeartbeats 4000000 in
set_option maxRecDepth 100000 in
theorem c_X12_isSafe (l : Launch) (G : Gt) (σ : Sg) (a1 : Int32) (hI : Inv σ) : Mc l G yX12_isSafe cX12_isSafe 3 (some .boolean) 3 67 0 0 [.ref (G.1 22 0), .int a1] σ (PI fun r τ => Inv τ ∧ Fr MS_X12_isSafe AS_X12_isSafe σ τ ∧ IV r 0 1) := by
  refine Mc.of (L0 := [some (.ref (G.1 22 0)), some (.int a1), none]) (by decide) (Nat.le_of_ble_eq_true rfl) rfl ?_
  intro p e s m args below meth c C hr hlk
  have C : Cx p s m args c cX12_isSafe 3 "LeanTowerModel" := C
  have k0 : (0 : Int32).toInt = 0 := by decide
  have k1 : (1 : Int32).toInt = 1 := by decide
  have J2 : ∀ (n : Nat) (τ : Sg) (y2 : Int32), Inv τ → Fr MS_X12_isSafe AS_X12_isSafe σ τ → IV a1 (-2147483648) 2147483647 → IV y2 0 7 → (7 - y2.toInt).toNat < n → MW p l e { frames := 3, cells := 0, slots := 0, locals := 67 } s m args below meth c (MQ below (QP G (PI fun r τ => Inv τ ∧ Fr MS_X12_isSafe AS_X12_isSafe σ τ ∧ IV r 0 1)) args s 0 0 (aG G)) 3 G 0 0 2 [some (.ref (G.1 22 0)), some (.int a1), some (.int y2)] [] τ := by
    intro n
    induction n with
    | zero => intro τ y2 iτ fτ b_a1 b_y2 hm; exact absurd hm (Nat.not_lt_zero _)
    | succ n ih2 =>
      intro τ y2 iτ fτ b_a1 b_y2 hm2
      refine m_iload_n C dX12_isSafe_2 rfl rfl ?_
      refine m_aload_n C dX12_isSafe_3 rfl rfl ?_
      refine g_22_0 C q4_116 dX12_isSafe_4 ?_
      refine m_iconst (v := 2) C dX12_isSafe_7 (by decide) ?_
      refine al_23 C kc_2 (by decide) kn_2 dX12_isSafe_8 ?_
      refine m_topi (fun x1 ex1 => ?_)
      have b2 : IV x1 0 7 := by rw [ex1]; exact iτ.1 23 0 2
      refine m_icmp_ge (tgt := 49) C dX12_isSafe_9 (by decide) (fun c3 => ?_) (fun c3 => ?_)
      · have f4 : x1.toInt ≤ y2.toInt := by
          have q : _ := c3
          simp only [ti_nle, ti_nlt, ti_le, ti_lt, ti_eq, ti_ne, Classical.not_not] at q
          omega
        refine m_aload_n C dX12_isSafe_49 rfl rfl ?_
        refine m_sipush (v := 200) C dX12_isSafe_50 (by decide) ?_
        have q5 := kt_200
        refine m_callV (n := 1) (ci := 11) (st := []) C (c_X12_worstOf l G τ (200) iτ (iv_wk kc_200 (by decide)) (by omega)) (by decide) (by decide) rfl rfl rfl q5_78 q5_75 q5_77 q0_40 q1_7 (by decide +kernel) rfl (by decide) (by decide) rfl (Nat.le_of_ble_eq_true rfl) dX12_isSafe_53 ?_
        rintro _ τ6 ⟨x9, rfl, i7, f8, b10⟩
        have g11 : Fr MS_X12_isSafe AS_X12_isSafe σ τ6 := Fr.call (fτ) f8 (by decide)
        show MW p l e _ s m args below meth c _ 3 G 0 0 56 [some (.ref (G.1 22 0)), some (.int a1), some (.int y2)] [.int x9] τ6
        refine m_aload_n C dX12_isSafe_56 rfl rfl ?_
        refine g_22_0 C q4_116 dX12_isSafe_57 ?_
        refine m_iconst (v := 1) C dX12_isSafe_60 (by decide) ?_
        refine al_23 C kc_1 (by decide) kn_1 dX12_isSafe_61 ?_
        refine m_topi (fun x13 ex13 => ?_)
        refine m_icmp_gt (tgt := 69) C dX12_isSafe_62 (by decide) (fun c14 => ?_) (fun c14 => ?_)
        · have f15 : x13.toInt < x9.toInt := by
            have q : _ := c14
            simp only [ti_nle, ti_nlt, ti_le, ti_lt, ti_eq, ti_ne, Classical.not_not] at q
            omega
          have b16 : IV x13 (-2147483648) 2147483646 := ⟨by have q1 := (iv_any x13); have q2 := b10; omega, by have q1 := (iv_any x13); have q2 := b10; omega⟩
          have b17 : IV x9 (-2147483647) 2147483647 := ⟨by have q1 := (iv_any x13); have q2 := b10; omega, by have q1 := (iv_any x13); have q2 := b10; omega⟩
          refine m_iconst (v := 0) C dX12_isSafe_69 (by decide) ?_
          exact m_zret C hr rfl hlk (by decide) (by decide) dX12_isSafe_70 ⟨_, rfl, i7, g11, (iv_wk kc_0 (by decide))⟩
        · have f18 : x9.toInt ≤ x13.toInt := by
            have q : _ := c14
            simp only [ti_nle, ti_nlt, ti_le, ti_lt, ti_eq, ti_ne, Classical.not_not] at q
            omega
          refine m_iconst (v := 1) C dX12_isSafe_65 (by decide) ?_
          refine m_goto (tgt := 70) C dX12_isSafe_66 (by decide) ?_
          exact m_zret C hr rfl hlk (by decide) (by decide) dX12_isSafe_70 ⟨_, rfl, i7, g11, (iv_wk kc_1 (by decide))⟩
      · have f19 : y2.toInt < x1.toInt := by
          have q : _ := c3
          simp only [ti_nle, ti_nlt, ti_le, ti_lt, ti_eq, ti_ne, Classical.not_not] at q
          omega
        have b20 : IV y2 0 6 := ⟨by have q1 := b_y2; have q2 := b2; omega, by have q1 := b_y2; have q2 := b2; omega⟩
        have b21 : IV x1 1 7 := ⟨by have q1 := b_y2; have q2 := b2; omega, by have q1 := b_y2; have q2 := b2; omega⟩
        refine m_aload_n C dX12_isSafe_12 rfl rfl ?_
        refine g_22_0 C q4_116 dX12_isSafe_13 ?_
        refine m_sipush (v := 224) C dX12_isSafe_16 (by decide) ?_
        refine m_iload_n C dX12_isSafe_19 rfl rfl ?_
        refine m_iadd C dX12_isSafe_20 ?_
        refine m_topi (fun x22 ex22 => ?_)
        have tx22 : x22.toInt = 224 + y2.toInt := by rw [ex22, ti_addv kc_224 b20 (by decide), kt_224]
        have b23 : IV x22 224 230 := by rw [ex22]; exact iv_add kc_224 b20 (by decide)
        refine m_iload_n C dX12_isSafe_21 rfl rfl ?_
        refine m_iload_n C dX12_isSafe_22 rfl rfl ?_
        refine m_callS (n := 2) (st := [.int x22, .ref (G.1 23 0)]) C (c_X12_has l G τ (a1) (y2) iτ ) q5_142 q5_140 q5_141 q1_7 (by decide +kernel) rfl (by decide) (by decide) rfl (Nat.le_of_ble_eq_true rfl) dX12_isSafe_23 ?_
        rintro _ τ24 ⟨x27, rfl, i25, f26, b28⟩
        have g29 : Fr MS_X12_isSafe AS_X12_isSafe σ τ24 := Fr.call (fτ) f26 (by decide)
        show MW p l e _ s m args below meth c _ 3 G 0 0 26 [some (.ref (G.1 22 0)), some (.int a1), some (.int y2)] [.int x27, .int x22, .ref (G.1 23 0)] τ24
        refine m_if_eq (tgt := 33) C dX12_isSafe_26 (by decide) (fun c31 => ?_) (fun c31 => ?_)
        · have f32 : x27.toInt = 0 := by
            have q : _ := c31
            simp only [ti_nle, ti_nlt, ti_le, ti_lt, ti_eq, ti_ne, Classical.not_not, kt_0] at q
            omega
          have b33 : IV x27 0 0 := ⟨by have q1 := b28; have q2 := kc_0; omega, by have q1 := b28; have q2 := kc_0; omega⟩
          refine m_aload_n C dX12_isSafe_33 rfl rfl ?_
          refine g_22_0 C q4_116 dX12_isSafe_34 ?_
          refine m_bipush (v := 24) C dX12_isSafe_37 (by decide) ?_
          refine m_iload_n C dX12_isSafe_39 rfl rfl ?_
          refine m_iadd C dX12_isSafe_40 ?_
          refine m_topi (fun x34 ex34 => ?_)
          have tx34 : x34.toInt = 24 + y2.toInt := by rw [ex34, ti_addv kc_24 b20 (by decide), kt_24]
          have b35 : IV x34 24 30 := by rw [ex34]; exact iv_add kc_24 b20 (by decide)
          refine al_23 C b35 (by decide) rfl dX12_isSafe_41 ?_
          refine m_topi (fun x36 ex36 => ?_)
          refine as_23 C b23 (by decide) rfl dX12_isSafe_42 ?_
          refine m_tops (fun τ37 eτ37 => ?_)
          have i38 : Inv τ37 := eτ37 ▸ Inv.putW i25 (by omega)
          have f39 : Fr MS_X12_isSafe AS_X12_isSafe σ τ37 := eτ37 ▸ Fr.put (g29) (Or.inr (by decide))
          obtain ⟨x40, ex40⟩ : ∃ y : Int32, y = y2 + 1 := ⟨_, rfl⟩
          have tx40 : x40.toInt = y2.toInt + 1 := by rw [ex40, ti_addv b20 kc_1 (by decide), kt_1]
          have b41 : IV x40 1 7 := by rw [ex40]; exact iv_add b20 kc_1 (by decide)
          refine m_iinc (v := x40) (L1 := [some (.ref (G.1 22 0)), some (.int a1), some (.int x40)]) C dX12_isSafe_43 rfl (by rw [ex40]; rfl) (by decide) rfl rfl ?_
          refine m_goto (tgt := 2) C dX12_isSafe_46 (by decide) ?_
          exact ih2 τ37 x40 i38 f39 b_a1 (iv_wk b41 (by decide)) (by have q := hm2; omega)
        · have f42 : x27.toInt ≠ 0 := by
            have q : _ := c31
            simp only [ti_nle, ti_nlt, ti_le, ti_lt, ti_eq, ti_ne, Classical.not_not, kt_0] at q
            omega
          have b43 : IV x27 1 1 := ⟨by have q1 := b28; have q2 := kc_0; omega, by have q1 := b28; have q2 := kc_0; omega⟩
          refine m_iconst (v := (-1)) C dX12_isSafe_29 (by decide) ?_
          refine m_goto (tgt := 42) C dX12_isSafe_30 (by decide) ?_
          refine as_23 C b23 (by decide) rfl dX12_isSafe_42 ?_
          refine m_tops (fun τ44 eτ44 => ?_)
          have i45 : Inv τ44 := eτ44 ▸ Inv.putW i25 (by omega)
          have f46 : Fr MS_X12_isSafe AS_X12_isSafe σ τ44 := eτ44 ▸ Fr.put (g29) (Or.inr (by decide))
          obtain ⟨x47, ex47⟩ : ∃ y : Int32, y = y2 + 1 := ⟨_, rfl⟩
          have tx47 : x47.toInt = y2.toInt + 1 := by rw [ex47, ti_addv b20 kc_1 (by decide), kt_1]
          have b48 : IV x47 1 7 := by rw [ex47]; exact iv_add b20 kc_1 (by decide)
          refine m_iinc (v := x47) (L1 := [some (.ref (G.1 22 0)), some (.int a1), some (.int x47)]) C dX12_isSafe_43 rfl (by rw [ex47]; rfl) (by decide) rfl rfl ?_
          refine m_goto (tgt := 2) C dX12_isSafe_46 (by decide) ?_
          exact ih2 τ44 x47 i45 f46 b_a1 (iv_wk b48 (by decide)) (by have q := hm2; omega)
  refine m_iconst (v := 0) C dX12_isSafe_0 (by decide) ?_
  refine m_istore_n (L1 := [some (.ref (G.1 22 0)), some (.int a1), some (.int 0)]) C dX12_isSafe_1 rfl (by decide) rfl rfl ?_
  exact J2 ((7 - (0 : Int32).toInt).toNat + 1) σ 0 hI Fr.rf (iv_any a1) (iv_wk kc_0 (by decide)) (Nat.lt_succ_self _)
