abbrev MS_J6_bitCount_0f7a4 : List (Nat × Nat) := []
abbrev AS_J6_bitCount_0f7a4 : List Nat := []
set_option maxHeartbeats 4000000 in
set_option maxRecDepth 100000 in
theorem c_J6_bitCount_0f7a4 (l : Launch) (G : Gt) (σ : Sg) (a1 : Int32) (hI : Inv σ) : Mc l G yJ6_bitCount_0f7a4 cJ6_bitCount_0f7a4 1 (some .int) 0 0 0 0 [.int a1] σ (PI fun r τ => Inv τ ∧ Fr MS_J6_bitCount_0f7a4 AS_J6_bitCount_0f7a4 σ τ ∧ IV r 0 63) := by
  refine Mc.of (L0 := [some (.int a1)]) (by decide) (Nat.le_of_ble_eq_true rfl) rfl ?_
  intro p e s m args below meth c C hr hlk
  have C : Cx p s m args c cJ6_bitCount_0f7a4 1 "java/lang/Integer" := C
  have k0 : (0 : Int32).toInt = 0 := by decide
  have k1 : (1 : Int32).toInt = 1 := by decide
  refine m_iload_n C dJ6_bitCount_0f7a4_0 rfl rfl ?_
  refine m_iload_n C dJ6_bitCount_0f7a4_1 rfl rfl ?_
  refine m_iconst (v := 1) C dJ6_bitCount_0f7a4_2 (by decide) ?_
  refine m_iushr C dJ6_bitCount_0f7a4_3 ?_
  refine m_topi (fun x1 ex1 => ?_)
  refine m_ldcw (v := 1431655765) C dJ6_bitCount_0f7a4_4 q3_147 ?_
  refine m_iand C dJ6_bitCount_0f7a4_7 ?_
  refine m_topi (fun x2 ex2 => ?_)
  have b3 : IV x2 0 1431655765 := by rw [ex2]; exact iv_and_r kc_1431655765 (by decide)
  refine m_isub C dJ6_bitCount_0f7a4_8 ?_
  refine m_topi (fun x4 ex4 => ?_)
  refine m_istore_n (L1 := [some (.int x4)]) C dJ6_bitCount_0f7a4_9 rfl (by decide) rfl rfl ?_
  refine m_iload_n C dJ6_bitCount_0f7a4_10 rfl rfl ?_
  refine m_ldcw (v := 858993459) C dJ6_bitCount_0f7a4_11 q3_148 ?_
  refine m_iand C dJ6_bitCount_0f7a4_14 ?_
  refine m_topi (fun x5 ex5 => ?_)
  have b6 : IV x5 0 858993459 := by rw [ex5]; exact iv_and_r kc_858993459 (by decide)
  refine m_iload_n C dJ6_bitCount_0f7a4_15 rfl rfl ?_
  refine m_iconst (v := 2) C dJ6_bitCount_0f7a4_16 (by decide) ?_
  refine m_iushr C dJ6_bitCount_0f7a4_17 ?_
  refine m_topi (fun x7 ex7 => ?_)
  refine m_ldcw (v := 858993459) C dJ6_bitCount_0f7a4_18 q3_148 ?_
  refine m_iand C dJ6_bitCount_0f7a4_21 ?_
  refine m_topi (fun x8 ex8 => ?_)
  have b9 : IV x8 0 858993459 := by rw [ex8]; exact iv_and_r kc_858993459 (by decide)
  refine m_iadd C dJ6_bitCount_0f7a4_22 ?_
  refine m_topi (fun x10 ex10 => ?_)
  have tx10 : x10.toInt = x5.toInt + x8.toInt := by rw [ex10, ti_addv b6 b9 (by decide)]
  have b11 : IV x10 0 1717986918 := by rw [ex10]; exact iv_add b6 b9 (by decide)
  refine m_istore_n (L1 := [some (.int x10)]) C dJ6_bitCount_0f7a4_23 rfl (by decide) rfl rfl ?_
  refine m_iload_n C dJ6_bitCount_0f7a4_24 rfl rfl ?_
  refine m_iload_n C dJ6_bitCount_0f7a4_25 rfl rfl ?_
  refine m_iconst (v := 4) C dJ6_bitCount_0f7a4_26 (by decide) ?_
  refine m_iushr C dJ6_bitCount_0f7a4_27 ?_
  refine m_topi (fun x12 ex12 => ?_)
  refine m_iadd C dJ6_bitCount_0f7a4_28 ?_
  refine m_topi (fun x13 ex13 => ?_)
  refine m_ldcw (v := 252645135) C dJ6_bitCount_0f7a4_29 q3_149 ?_
  refine m_iand C dJ6_bitCount_0f7a4_32 ?_
  refine m_topi (fun x14 ex14 => ?_)
  have b15 : IV x14 0 252645135 := by rw [ex14]; exact iv_and_r kc_252645135 (by decide)
  refine m_istore_n (L1 := [some (.int x14)]) C dJ6_bitCount_0f7a4_33 rfl (by decide) rfl rfl ?_
  refine m_iload_n C dJ6_bitCount_0f7a4_34 rfl rfl ?_
  refine m_iload_n C dJ6_bitCount_0f7a4_35 rfl rfl ?_
  refine m_bipush (v := 8) C dJ6_bitCount_0f7a4_36 (by decide) ?_
  refine m_iushr C dJ6_bitCount_0f7a4_38 ?_
  refine m_topi (fun x16 ex16 => ?_)
  refine m_iadd C dJ6_bitCount_0f7a4_39 ?_
  refine m_topi (fun x17 ex17 => ?_)
  refine m_istore_n (L1 := [some (.int x17)]) C dJ6_bitCount_0f7a4_40 rfl (by decide) rfl rfl ?_
  refine m_iload_n C dJ6_bitCount_0f7a4_41 rfl rfl ?_
  refine m_iload_n C dJ6_bitCount_0f7a4_42 rfl rfl ?_
  refine m_bipush (v := 16) C dJ6_bitCount_0f7a4_43 (by decide) ?_
  refine m_iushr C dJ6_bitCount_0f7a4_45 ?_
  refine m_topi (fun x18 ex18 => ?_)
  refine m_iadd C dJ6_bitCount_0f7a4_46 ?_
  refine m_topi (fun x19 ex19 => ?_)
  refine m_istore_n (L1 := [some (.int x19)]) C dJ6_bitCount_0f7a4_47 rfl (by decide) rfl rfl ?_
  refine m_iload_n C dJ6_bitCount_0f7a4_48 rfl rfl ?_
  refine m_bipush (v := 63) C dJ6_bitCount_0f7a4_49 (by decide) ?_
  refine m_iand C dJ6_bitCount_0f7a4_51 ?_
  refine m_topi (fun x20 ex20 => ?_)
  have b21 : IV x20 0 63 := by rw [ex20]; exact iv_and_r kc_63 (by decide)
  exact m_iret C hr hlk (by decide) (by decide) dJ6_bitCount_0f7a4_52 ⟨_, rfl, hI, Fr.rf, b21⟩

abbrev MS_J0_coder_7d493 : List (Nat × Nat) := []
abbrev AS_J0_coder_7d493 : List Nat := []
set_option maxHeartbeats 4000000 in
set_option maxRecDepth 100000 in
theorem c_J0_coder_7d493 (l : Launch) (G : Gt) (σ : Sg) {w : Nat} (hw8 : w < 8) (hI : Inv σ) : Mc l G yJ0_coder_7d493 cJ0_coder_7d493 1 (some .byte) 0 0 0 0 [.ref (G.2.2.2.2.1 w)] σ (PI fun r τ => Inv τ ∧ Fr MS_J0_coder_7d493 AS_J0_coder_7d493 σ τ ∧ IV r 0 0) := by
  refine Mc.of (L0 := [some (.ref (G.2.2.2.2.1 w))]) (by decide) (Nat.le_of_ble_eq_true rfl) rfl ?_
  intro p e s m args below meth c C hr hlk
  have C : Cx p s m args c cJ0_coder_7d493 1 "java/lang/String" := C
  have k0 : (0 : Int32).toInt = 0 := by decide
  have k1 : (1 : Int32).toInt = 1 := by decide
  refine s_compact C q2_98 dJ0_coder_7d493_0 ?_
  refine m_if_eq (tgt := 13) C dJ0_coder_7d493_3 (by decide) (fun c1 => ?_) (fun c1 => ?_)
  · first | exact absurd c1 (by decide) | exact absurd (by decide) c1
  · have f3 : 1 ≠ 0 := by
      have q : _ := c1
      simp only [ti_nle, ti_nlt, ti_le, ti_lt, ti_eq, ti_ne, Classical.not_not, kt_1, kt_0] at q
      omega
    refine m_aload_n C dJ0_coder_7d493_6 rfl rfl ?_
    refine s_coder C hw8 q6_2 dJ0_coder_7d493_7 ?_
    refine m_goto (tgt := 14) C dJ0_coder_7d493_10 (by decide) ?_
    exact m_zret C hr rfl hlk (by decide) (by decide) dJ0_coder_7d493_14 ⟨_, rfl, hI, Fr.rf, kc_0⟩

abbrev MS_J0_isLatin1_aae02 : List (Nat × Nat) := []
abbrev AS_J0_isLatin1_aae02 : List Nat := []
set_option maxHeartbeats 4000000 in
set_option maxRecDepth 100000 in
theorem c_J0_isLatin1_aae02 (l : Launch) (G : Gt) (σ : Sg) {w : Nat} (hw8 : w < 8) (hI : Inv σ) : Mc l G yJ0_isLatin1_aae02 cJ0_isLatin1_aae02 1 (some .boolean) 0 0 0 0 [.ref (G.2.2.2.2.1 w)] σ (PI fun r τ => Inv τ ∧ Fr MS_J0_isLatin1_aae02 AS_J0_isLatin1_aae02 σ τ ∧ IV r 1 1) := by
  refine Mc.of (L0 := [some (.ref (G.2.2.2.2.1 w))]) (by decide) (Nat.le_of_ble_eq_true rfl) rfl ?_
  intro p e s m args below meth c C hr hlk
  have C : Cx p s m args c cJ0_isLatin1_aae02 1 "java/lang/String" := C
  have k0 : (0 : Int32).toInt = 0 := by decide
  have k1 : (1 : Int32).toInt = 1 := by decide
  refine s_compact C q2_98 dJ0_isLatin1_aae02_0 ?_
  refine m_if_eq (tgt := 17) C dJ0_isLatin1_aae02_3 (by decide) (fun c1 => ?_) (fun c1 => ?_)
  · first | exact absurd c1 (by decide) | exact absurd (by decide) c1
  · have f3 : 1 ≠ 0 := by
      have q : _ := c1
      simp only [ti_nle, ti_nlt, ti_le, ti_lt, ti_eq, ti_ne, Classical.not_not, kt_1, kt_0] at q
      omega
    refine m_aload_n C dJ0_isLatin1_aae02_6 rfl rfl ?_
    refine s_coder C hw8 q6_2 dJ0_isLatin1_aae02_7 ?_
    refine m_if_ne (tgt := 17) C dJ0_isLatin1_aae02_10 (by decide) (fun c4 => ?_) (fun c4 => ?_)
    · first | exact absurd c4 (by decide) | exact absurd (by decide) c4
    · have f6 : 0 = 0 := by
        have q : _ := c4
        simp only [ti_nle, ti_nlt, ti_le, ti_lt, ti_eq, ti_ne, Classical.not_not, kt_0, kt_0] at q
        omega
      refine m_iconst (v := 1) C dJ0_isLatin1_aae02_13 (by decide) ?_
      refine m_goto (tgt := 18) C dJ0_isLatin1_aae02_14 (by decide) ?_
      exact m_zret C hr rfl hlk (by decide) (by decide) dJ0_isLatin1_aae02_18 ⟨_, rfl, hI, Fr.rf, kc_1⟩

abbrev MS_J0_length_8abf5 : List (Nat × Nat) := []
abbrev AS_J0_length_8abf5 : List Nat := []
set_option maxHeartbeats 4000000 in
set_option maxRecDepth 100000 in
theorem c_J0_length_8abf5 (l : Launch) (G : Gt) (σ : Sg) {w : Nat} (hw8 : w < 8) (hI : Inv σ) : Mc l G yJ0_length_8abf5 cJ0_length_8abf5 1 (some .int) 1 20 0 0 [.ref (G.2.2.2.2.1 w)] σ (PI fun r τ => Inv τ ∧ Fr MS_J0_length_8abf5 AS_J0_length_8abf5 σ τ ∧ IV r 3 7 ∧ r.toInt = (tx_len.getD w 0 : Int)) := by
  refine Mc.of (L0 := [some (.ref (G.2.2.2.2.1 w))]) (by decide) (Nat.le_of_ble_eq_true rfl) rfl ?_
  intro p e s m args below meth c C hr hlk
  have C : Cx p s m args c cJ0_length_8abf5 1 "java/lang/String" := C
  have k0 : (0 : Int32).toInt = 0 := by decide
  have k1 : (1 : Int32).toInt = 1 := by decide
  refine m_aload_n C dJ0_length_8abf5_0 rfl rfl ?_
  refine s_value C hw8 q6_1 dJ0_length_8abf5_1 ?_
  refine s_len C hw8 dJ0_length_8abf5_4 (fun x1 tx1 => ?_)
  have b2 : IV x1 3 7 := by have q := tx_all _ hw8; exact ⟨by omega, by omega⟩
  refine m_aload_n C dJ0_length_8abf5_5 rfl rfl ?_
  refine m_callK (n := 0) (w := w) (st := [.int x1]) C (c_J0_coder_7d493 l G σ (w := w) hw8  hI ) hw8 rfl q2_97 q2_94 q2_95 q2_96 q1_9 (by decide +kernel) rfl (by decide) (by decide) rfl (Nat.le_of_ble_eq_true rfl) dJ0_length_8abf5_6 ?_
  rintro _ τ3 ⟨x6, rfl, i4, f5, b7⟩
  have g8 : Fr MS_J0_length_8abf5 AS_J0_length_8abf5 σ τ3 := Fr.call (Fr.rf) f5 (by decide)
  show MW p l e _ s m args below meth c _ 1 G 0 0 9 [some (.ref (G.2.2.2.2.1 w))] [.int x6, .int x1] τ3
  refine m_ishr C dJ0_length_8abf5_9 ?_
  refine m_topi (fun x10 ex10 => ?_)
  have tx10 : x10.toInt = x1.toInt := by rw [ti_shr0 ex10 (by have q := b7; omega)]
  have b11 : IV x10 3 7 := ⟨by have q := b2; omega, by have q := b2; omega⟩
  exact m_iret C hr hlk (by decide) (by decide) dJ0_length_8abf5_10 ⟨_, rfl, i4, g8, b11, (by omega)⟩

abbrev MS_J3_checkIndex_n : List (Nat × Nat) := []
abbrev AS_J3_checkIndex_n : List Nat := []
set_option maxHeartbeats 4000000 in
set_option maxRecDepth 100000 in
theorem c_J3_checkIndex_n (l : Launch) (G : Gt) (σ : Sg) (a1 : Int32) (a2 : Int32) (hI : Inv σ) (ha1 : IV a1 0 6) (hci : 0 ≤ a1.toInt ∧ a1.toInt < a2.toInt) : Mc l G yJ3_checkIndex_8e157 cJ3_checkIndex_8e157 3 (some .int) 0 0 0 0 [.int a1, .int a2, .null] σ (PI fun r τ => Inv τ ∧ Fr MS_J3_checkIndex_n AS_J3_checkIndex_n σ τ ∧ IV r 0 6) := by
  refine Mc.of (L0 := [some (.int a1), some (.int a2), some (.null)]) (by decide) (Nat.le_of_ble_eq_true rfl) rfl ?_
  intro p e s m args below meth c C hr hlk
  have C : Cx p s m args c cJ3_checkIndex_8e157 3 "jdk/internal/util/Preconditions" := C
  have k0 : (0 : Int32).toInt = 0 := by decide
  have k1 : (1 : Int32).toInt = 1 := by decide
  refine m_iload_n C dJ3_checkIndex_8e157_0 rfl rfl ?_
  refine m_if_lt (tgt := 9) C dJ3_checkIndex_8e157_1 (by decide) (fun c1 => ?_) (fun c1 => ?_)
  · exfalso
    have q : _ := c1
    simp only [ti_nle, ti_nlt, ti_le, ti_lt, ti_eq, ti_ne, Classical.not_not, kt_0] at q
    have q1 := ha1; have q2 := kc_0; omega
  · have f3 : 0 ≤ a1.toInt := by
      have q : _ := c1
      simp only [ti_nle, ti_nlt, ti_le, ti_lt, ti_eq, ti_ne, Classical.not_not, kt_0] at q
      omega
    refine m_iload_n C dJ3_checkIndex_8e157_4 rfl rfl ?_
    refine m_iload_n C dJ3_checkIndex_8e157_5 rfl rfl ?_
    refine m_icmp_lt (tgt := 16) C dJ3_checkIndex_8e157_6 (by decide) (fun c4 => ?_) (fun c4 => ?_)
    · have f5 : a1.toInt < a2.toInt := by
        have q : _ := c4
        simp only [ti_nle, ti_nlt, ti_le, ti_lt, ti_eq, ti_ne, Classical.not_not] at q
        omega
      have b6 : IV a2 1 2147483647 := ⟨by have q1 := ha1; have q2 := (iv_any a2); omega, by have q1 := ha1; have q2 := (iv_any a2); omega⟩
      refine m_iload_n C dJ3_checkIndex_8e157_16 rfl rfl ?_
      exact m_iret C hr hlk (by decide) (by decide) dJ3_checkIndex_8e157_17 ⟨_, rfl, hI, Fr.rf, ha1⟩
    · have f7 : a2.toInt ≤ a1.toInt := by
        have q : _ := c4
        simp only [ti_nle, ti_nlt, ti_le, ti_lt, ti_eq, ti_ne, Classical.not_not] at q
        omega
      have b8 : IV a2 (-2147483648) 6 := ⟨by have q1 := (iv_any a2); have q2 := ha1; omega, by have q1 := (iv_any a2); have q2 := ha1; omega⟩
      exfalso
      omega

abbrev MS_J3_checkIndex_r : List (Nat × Nat) := []
abbrev AS_J3_checkIndex_r : List Nat := []
set_option maxHeartbeats 4000000 in
set_option maxRecDepth 100000 in
theorem c_J3_checkIndex_r (l : Launch) (G : Gt) (σ : Sg) (a1 : Int32) (a2 : Int32) (a3 : Nat) (hI : Inv σ) (ha1 : IV a1 0 6) (hci : 0 ≤ a1.toInt ∧ a1.toInt < a2.toInt) : Mc l G yJ3_checkIndex_8e157 cJ3_checkIndex_8e157 3 (some .int) 0 0 0 0 [.int a1, .int a2, .ref a3] σ (PI fun r τ => Inv τ ∧ Fr MS_J3_checkIndex_r AS_J3_checkIndex_r σ τ ∧ IV r 0 6) := by
  refine Mc.of (L0 := [some (.int a1), some (.int a2), some (.ref a3)]) (by decide) (Nat.le_of_ble_eq_true rfl) rfl ?_
  intro p e s m args below meth c C hr hlk
  have C : Cx p s m args c cJ3_checkIndex_8e157 3 "jdk/internal/util/Preconditions" := C
  have k0 : (0 : Int32).toInt = 0 := by decide
  have k1 : (1 : Int32).toInt = 1 := by decide
  refine m_iload_n C dJ3_checkIndex_8e157_0 rfl rfl ?_
  refine m_if_lt (tgt := 9) C dJ3_checkIndex_8e157_1 (by decide) (fun c1 => ?_) (fun c1 => ?_)
  · exfalso
    have q : _ := c1
    simp only [ti_nle, ti_nlt, ti_le, ti_lt, ti_eq, ti_ne, Classical.not_not, kt_0] at q
    have q1 := ha1; have q2 := kc_0; omega
  · have f3 : 0 ≤ a1.toInt := by
      have q : _ := c1
      simp only [ti_nle, ti_nlt, ti_le, ti_lt, ti_eq, ti_ne, Classical.not_not, kt_0] at q
      omega
    refine m_iload_n C dJ3_checkIndex_8e157_4 rfl rfl ?_
    refine m_iload_n C dJ3_checkIndex_8e157_5 rfl rfl ?_
    refine m_icmp_lt (tgt := 16) C dJ3_checkIndex_8e157_6 (by decide) (fun c4 => ?_) (fun c4 => ?_)
    · have f5 : a1.toInt < a2.toInt := by
        have q : _ := c4
        simp only [ti_nle, ti_nlt, ti_le, ti_lt, ti_eq, ti_ne, Classical.not_not] at q
        omega
      have b6 : IV a2 1 2147483647 := ⟨by have q1 := ha1; have q2 := (iv_any a2); omega, by have q1 := ha1; have q2 := (iv_any a2); omega⟩
      refine m_iload_n C dJ3_checkIndex_8e157_16 rfl rfl ?_
      exact m_iret C hr hlk (by decide) (by decide) dJ3_checkIndex_8e157_17 ⟨_, rfl, hI, Fr.rf, ha1⟩
    · have f7 : a2.toInt ≤ a1.toInt := by
        have q : _ := c4
        simp only [ti_nle, ti_nlt, ti_le, ti_lt, ti_eq, ti_ne, Classical.not_not] at q
        omega
      have b8 : IV a2 (-2147483648) 6 := ⟨by have q1 := (iv_any a2); have q2 := ha1; omega, by have q1 := (iv_any a2); have q2 := ha1; omega⟩
      exfalso
      omega

abbrev MS_J0_checkIndex_df160 : List (Nat × Nat) := []
abbrev AS_J0_checkIndex_df160 : List Nat := []
set_option maxHeartbeats 4000000 in
set_option maxRecDepth 100000 in
theorem c_J0_checkIndex_df160 (l : Launch) (G : Gt) (σ : Sg) (a1 : Int32) (a2 : Int32) (hI : Inv σ) (ha1 : IV a1 0 6) (hci : 0 ≤ a1.toInt ∧ a1.toInt < a2.toInt) : Mc l G yJ0_checkIndex_df160 cJ0_checkIndex_df160 2 none 1 22 0 0 [.int a1, .int a2] σ (PV fun τ => Inv τ ∧ Fr MS_J0_checkIndex_df160 AS_J0_checkIndex_df160 σ τ) := by
  refine Mc.of (L0 := [some (.int a1), some (.int a2)]) (by decide) (Nat.le_of_ble_eq_true rfl) rfl ?_
  intro p e s m args below meth c C hr hlk
  have C : Cx p s m args c cJ0_checkIndex_df160 2 "java/lang/String" := C
  have k0 : (0 : Int32).toInt = 0 := by decide
  have k1 : (1 : Int32).toInt = 1 := by decide
  refine m_iload_n C dJ0_checkIndex_df160_0 rfl rfl ?_
  refine m_iload_n C dJ0_checkIndex_df160_1 rfl rfl ?_
  refine s_fmt C q2_114 dJ0_checkIndex_df160_2 ?_ (fun x1 => ?_)
  · skip
    refine m_callS (n := 3) (st := []) C (c_J3_checkIndex_n l G σ (a1) (a2)  hI ha1 (by omega)) q2_118 q2_116 q2_117 q1_11 (by decide +kernel) rfl (by decide) (by decide) rfl (Nat.le_of_ble_eq_true rfl) dJ0_checkIndex_df160_5 ?_
    rintro _ τ2 ⟨x5, rfl, i3, f4, b6⟩
    have g7 : Fr MS_J0_checkIndex_df160 AS_J0_checkIndex_df160 σ τ2 := Fr.call (Fr.rf) f4 (by decide)
    show MW p l e _ s m args below meth c _ 2 G 0 0 8 [some (.int a1), some (.int a2)] [.int x5] τ2
    refine m_pop C dJ0_checkIndex_df160_8 rfl ?_
    exact m_vret C hr hlk (by decide) (by decide) dJ0_checkIndex_df160_9 ⟨rfl, i3, g7⟩
  · skip
    refine m_callS (n := 3) (st := []) C (c_J3_checkIndex_r l G σ (a1) (a2) (x1) hI ha1 (by omega)) q2_118 q2_116 q2_117 q1_11 (by decide +kernel) rfl (by decide) (by decide) rfl (Nat.le_of_ble_eq_true rfl) dJ0_checkIndex_df160_5 ?_
    rintro _ τ9 ⟨x12, rfl, i10, f11, b13⟩
    have g14 : Fr MS_J0_checkIndex_df160 AS_J0_checkIndex_df160 σ τ9 := Fr.call (Fr.rf) f11 (by decide)
    show MW p l e _ s m args below meth c _ 2 G 0 0 8 [some (.int a1), some (.int a2)] [.int x12] τ9
    refine m_pop C dJ0_checkIndex_df160_8 rfl ?_
    exact m_vret C hr hlk (by decide) (by decide) dJ0_checkIndex_df160_9 ⟨rfl, i10, g14⟩

abbrev MS_J1_charAt_3b067 : List (Nat × Nat) := []
abbrev AS_J1_charAt_3b067 : List Nat := []
set_option maxHeartbeats 4000000 in
set_option maxRecDepth 100000 in
theorem c_J1_charAt_3b067 (l : Launch) (G : Gt) (σ : Sg) {w : Nat} (hw8 : w < 8) (a1 : Int32) (hI : Inv σ) (ha1 : IV a1 0 6) (hci : 0 ≤ a1.toInt ∧ a1.toInt < (tx_len.getD w 0 : Int)) : Mc l G yJ1_charAt_3b067 cJ1_charAt_3b067 2 (some .char) 2 43 0 0 [.ref (G.2.2.2.2.2 w), .int a1] σ (PI fun r τ => Inv τ ∧ Fr MS_J1_charAt_3b067 AS_J1_charAt_3b067 σ τ ∧ IV r (-2147483648) 2147483647 ∧ narrow .char (.int r) = .int r) := by
  refine Mc.of (L0 := [some (.ref (G.2.2.2.2.2 w)), some (.int a1)]) (by decide) (Nat.le_of_ble_eq_true rfl) rfl ?_
  intro p e s m args below meth c C hr hlk
  have C : Cx p s m args c cJ1_charAt_3b067 2 "java/lang/StringLatin1" := C
  have k0 : (0 : Int32).toInt = 0 := by decide
  have k1 : (1 : Int32).toInt = 1 := by decide
  refine m_iload_n C dJ1_charAt_3b067_0 rfl rfl ?_
  refine m_aload_n C dJ1_charAt_3b067_1 rfl rfl ?_
  refine s_len C hw8 dJ1_charAt_3b067_2 (fun x1 tx1 => ?_)
  have b2 : IV x1 3 7 := by have q := tx_all _ hw8; exact ⟨by omega, by omega⟩
  refine m_callS (n := 2) (st := []) C (c_J0_checkIndex_df160 l G σ (a1) (x1) hI ha1 (by omega)) q2_113 q2_111 q2_112 q1_9 (by decide +kernel) rfl (by decide) (by decide) rfl (Nat.le_of_ble_eq_true rfl) dJ1_charAt_3b067_3 ?_
  rintro _ τ3 ⟨rfl, i4, f5⟩
  have g8 : Fr MS_J1_charAt_3b067 AS_J1_charAt_3b067 σ τ3 := Fr.call (Fr.rf) f5 (by decide)
  show MW p l e _ s m args below meth c _ 2 G 0 0 6 [some (.ref (G.2.2.2.2.2 w)), some (.int a1)] [] τ3
  refine m_aload_n C dJ1_charAt_3b067_6 rfl rfl ?_
  refine m_iload_n C dJ1_charAt_3b067_7 rfl rfl ?_
  refine s_at C hw8 ⟨by omega, by omega⟩ dJ1_charAt_3b067_8 ?_
  refine m_topi (fun x10 ex10 => ?_)
  refine m_sipush (v := 255) C dJ1_charAt_3b067_9 (by decide) ?_
  refine m_iand C dJ1_charAt_3b067_12 ?_
  refine m_topi (fun x11 ex11 => ?_)
  have b12 : IV x11 0 255 := by rw [ex11]; exact iv_and_r kc_255 (by decide)
  refine m_i2c C dJ1_charAt_3b067_13 ?_
  refine m_topi (fun x13 ex13 => ?_)
  exact m_zret C hr (by rw [ex13]; exact pk_nc _) hlk (by decide) (by decide) dJ1_charAt_3b067_14 ⟨_, rfl, i4, g8, (iv_any x13), (by rw [ex13]; exact pk_nc _)⟩

abbrev MS_J0_charAt_5068e : List (Nat × Nat) := []
abbrev AS_J0_charAt_5068e : List Nat := []
set_option maxHeartbeats 4000000 in
set_option maxRecDepth 100000 in
theorem c_J0_charAt_5068e (l : Launch) (G : Gt) (σ : Sg) {w : Nat} (hw8 : w < 8) (a1 : Int32) (hI : Inv σ) (ha1 : IV a1 0 6) (hci : 0 ≤ a1.toInt ∧ a1.toInt < (tx_len.getD w 0 : Int)) : Mc l G yJ0_charAt_5068e cJ0_charAt_5068e 2 (some .char) 3 64 0 0 [.ref (G.2.2.2.2.1 w), .int a1] σ (PI fun r τ => Inv τ ∧ Fr MS_J0_charAt_5068e AS_J0_charAt_5068e σ τ ∧ IV r (-2147483648) 2147483647) := by
  refine Mc.of (L0 := [some (.ref (G.2.2.2.2.1 w)), some (.int a1)]) (by decide) (Nat.le_of_ble_eq_true rfl) rfl ?_
  intro p e s m args below meth c C hr hlk
  have C : Cx p s m args c cJ0_charAt_5068e 2 "java/lang/String" := C
  have k0 : (0 : Int32).toInt = 0 := by decide
  have k1 : (1 : Int32).toInt = 1 := by decide
  refine m_aload_n C dJ0_charAt_5068e_0 rfl rfl ?_
  refine m_callK (n := 0) (w := w) (st := []) C (c_J0_isLatin1_aae02 l G σ (w := w) hw8  hI ) hw8 rfl q2_107 q2_104 q2_105 q2_106 q1_9 (by decide +kernel) rfl (by decide) (by decide) rfl (Nat.le_of_ble_eq_true rfl) dJ0_charAt_5068e_1 ?_
  rintro _ τ1 ⟨x4, rfl, i2, f3, b5⟩
  have g6 : Fr MS_J0_charAt_5068e AS_J0_charAt_5068e σ τ1 := Fr.call (Fr.rf) f3 (by decide)
  show MW p l e _ s m args below meth c _ 2 G 0 0 4 [some (.ref (G.2.2.2.2.1 w)), some (.int a1)] [.int x4] τ1
  refine m_if_eq (tgt := 16) C dJ0_charAt_5068e_4 (by decide) (fun c8 => ?_) (fun c8 => ?_)
  · exfalso
    have q : _ := c8
    simp only [ti_nle, ti_nlt, ti_le, ti_lt, ti_eq, ti_ne, Classical.not_not, kt_0] at q
    have q1 := b5; have q2 := kc_0; omega
  · have f10 : x4.toInt ≠ 0 := by
      have q : _ := c8
      simp only [ti_nle, ti_nlt, ti_le, ti_lt, ti_eq, ti_ne, Classical.not_not, kt_0] at q
      omega
    refine m_aload_n C dJ0_charAt_5068e_7 rfl rfl ?_
    refine s_value C hw8 q6_1 dJ0_charAt_5068e_8 ?_
    refine m_iload_n C dJ0_charAt_5068e_11 rfl rfl ?_
    refine m_callS (n := 2) (st := []) C (c_J1_charAt_3b067 l G τ1 (w := w) hw8 (a1) i2 ha1 (by omega)) q2_110 q2_108 q2_109 q1_10 (by decide +kernel) rfl (by decide) (by decide) rfl (Nat.le_of_ble_eq_true rfl) dJ0_charAt_5068e_12 ?_
    rintro _ τ11 ⟨x14, rfl, i12, f13, b15, h17⟩
    have g16 : Fr MS_J0_charAt_5068e AS_J0_charAt_5068e σ τ11 := Fr.call (g6) f13 (by decide)
    show MW p l e _ s m args below meth c _ 2 G 0 0 15 [some (.ref (G.2.2.2.2.1 w)), some (.int a1)] [.int x14] τ11
    exact m_zret C hr h17 hlk (by decide) (by decide) dJ0_charAt_5068e_15 ⟨_, rfl, i12, g16, b15⟩
