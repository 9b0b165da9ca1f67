abbrev MS_X12_leaves : List (Nat × Nat) := [(22, 20)]
abbrev AS_X12_leaves : List Nat := [31]
set_option maxHeartbeats 4000000 in
set_option maxRecDepth 100000 in
theorem c_X12_leaves (l : Launch) (G : Gt) (σ : Sg) (a1 : Int32) (a2 : Int32) (a3 : Int32) (hI : Inv σ) (htr : (gV σ 22 0 20).toInt ≤ 10) : Mc l G yX12_leaves cX12_leaves 4 none 0 0 0 0 [.ref (G.1 22 0), .int a1, .int a2, .int a3] σ (PV fun τ => Inv τ ∧ Fr MS_X12_leaves AS_X12_leaves σ τ ∧ (gV τ 22 0 20).toInt ≤ (gV σ 22 0 20).toInt + 3) := by
  refine Mc.of (L0 := [some (.ref (G.1 22 0)), some (.int a1), some (.int a2), some (.int a3)]) (by decide) (Nat.le_of_ble_eq_true rfl) rfl ?_
  intro p e s m args below meth c C hr hlk
  have C : Cx p s m args c cX12_leaves 4 "LeanTowerModel" := C
  have k0 : (0 : Int32).toInt = 0 := by decide
  have k1 : (1 : Int32).toInt = 1 := by decide
  have u1 : IV (gV σ 22 0 20) 0 13 := hI.1 22 0 20
  have b2 : IV (gV σ 22 0 20) 0 10 := ⟨by omega, by omega⟩
  refine m_aload_n C dX12_leaves_0 rfl rfl ?_
  refine g_22_19 C q4_135 dX12_leaves_1 ?_
  refine m_aload_n C dX12_leaves_4 rfl rfl ?_
  refine g_22_20 C q4_136 dX12_leaves_5 ?_
  refine m_eqs (w := (gV σ 22 0 20)) rfl ?_
  refine m_iload_n C dX12_leaves_8 rfl rfl ?_
  refine as_31 C b2 (by decide) rfl dX12_leaves_9 ?_
  refine m_tops (fun τ3 eτ3 => ?_)
  have i4 : Inv τ3 := eτ3 ▸ Inv.putF hI (by decide) rfl
  have f5 : Fr MS_X12_leaves AS_X12_leaves σ τ3 := eτ3 ▸ Fr.put (Fr.rf) (Or.inr (by decide))
  refine m_aload_n C dX12_leaves_10 rfl rfl ?_
  refine g_22_19 C q4_135 dX12_leaves_11 ?_
  refine m_aload_n C dX12_leaves_14 rfl rfl ?_
  refine g_22_20 C q4_136 dX12_leaves_15 ?_
  refine m_eqs (w := (gV σ 22 0 20)) (show gV τ3 22 0 20 = (gV σ 22 0 20) from gV_put eτ3 rfl) ?_
  refine m_iconst (v := 1) C dX12_leaves_18 (by decide) ?_
  refine m_iadd C dX12_leaves_19 ?_
  refine m_topi (fun x6 ex6 => ?_)
  have tx6 : x6.toInt = (gV σ 22 0 20).toInt + 1 := by rw [ex6, ti_addv b2 kc_1 (by decide), kt_1]
  have b7 : IV x6 1 11 := by rw [ex6]; exact iv_add b2 kc_1 (by decide)
  refine m_iload_n C dX12_leaves_20 rfl rfl ?_
  refine as_31 C b7 (by decide) rfl dX12_leaves_21 ?_
  refine m_tops (fun τ8 eτ8 => ?_)
  have i9 : Inv τ8 := eτ8 ▸ Inv.putF i4 (by decide) rfl
  have f10 : Fr MS_X12_leaves AS_X12_leaves σ τ8 := eτ8 ▸ Fr.put (f5) (Or.inr (by decide))
  refine m_aload_n C dX12_leaves_22 rfl rfl ?_
  refine g_22_19 C q4_135 dX12_leaves_23 ?_
  refine m_aload_n C dX12_leaves_26 rfl rfl ?_
  refine g_22_20 C q4_136 dX12_leaves_27 ?_
  refine m_eqs (w := (gV σ 22 0 20)) (show gV τ8 22 0 20 = (gV σ 22 0 20) from gV_put eτ8 (show gV τ3 22 0 20 = (gV σ 22 0 20) from gV_put eτ3 rfl)) ?_
  refine m_iconst (v := 2) C dX12_leaves_30 (by decide) ?_
  refine m_iadd C dX12_leaves_31 ?_
  refine m_topi (fun x11 ex11 => ?_)
  have tx11 : x11.toInt = (gV σ 22 0 20).toInt + 2 := by rw [ex11, ti_addv b2 kc_2 (by decide), kt_2]
  have b12 : IV x11 2 12 := by rw [ex11]; exact iv_add b2 kc_2 (by decide)
  refine m_iload_n C dX12_leaves_32 rfl rfl ?_
  refine as_31 C b12 (by decide) rfl dX12_leaves_33 ?_
  refine m_tops (fun τ13 eτ13 => ?_)
  have i14 : Inv τ13 := eτ13 ▸ Inv.putF i9 (by decide) rfl
  have f15 : Fr MS_X12_leaves AS_X12_leaves σ τ13 := eτ13 ▸ Fr.put (f10) (Or.inr (by decide))
  refine m_aload_n C dX12_leaves_34 rfl rfl ?_
  refine m_dup C dX12_leaves_35 rfl ?_
  refine g_22_20 C q4_136 dX12_leaves_36 ?_
  refine m_eqs (w := (gV σ 22 0 20)) (show gV τ13 22 0 20 = (gV σ 22 0 20) from gV_put eτ13 (show gV τ8 22 0 20 = (gV σ 22 0 20) from gV_put eτ8 (show gV τ3 22 0 20 = (gV σ 22 0 20) from gV_put eτ3 rfl))) ?_
  refine m_iload_n C dX12_leaves_39 rfl rfl ?_
  refine m_if_le (tgt := 47) C dX12_leaves_40 (by decide) (fun c16 => ?_) (fun c16 => ?_)
  · have f17 : a3.toInt ≤ 0 := by
      have q : _ := c16
      simp only [ti_nle, ti_nlt, ti_le, ti_lt, ti_eq, ti_ne, Classical.not_not, kt_0] at q
      omega
    have b18 : IV a3 (-2147483648) 0 := ⟨by have q1 := (iv_any a3); have q2 := kc_0; omega, by have q1 := (iv_any a3); have q2 := kc_0; omega⟩
    refine m_iload_n C dX12_leaves_47 rfl rfl ?_
    refine m_if_le (tgt := 55) C dX12_leaves_48 (by decide) (fun c19 => ?_) (fun c19 => ?_)
    · have f20 : a2.toInt ≤ 0 := by
        have q : _ := c19
        simp only [ti_nle, ti_nlt, ti_le, ti_lt, ti_eq, ti_ne, Classical.not_not, kt_0] at q
        omega
      have b21 : IV a2 (-2147483648) 0 := ⟨by have q1 := (iv_any a2); have q2 := kc_0; omega, by have q1 := (iv_any a2); have q2 := kc_0; omega⟩
      refine m_iconst (v := 1) C dX12_leaves_55 (by decide) ?_
      refine m_iadd C dX12_leaves_56 ?_
      refine m_topi (fun x22 ex22 => ?_)
      have tx22 : x22.toInt = (gV σ 22 0 20).toInt + 1 := by rw [ex22, ti_addv b2 kc_1 (by decide), kt_1]
      have b23 : IV x22 1 11 := by rw [ex22]; exact iv_add b2 kc_1 (by decide)
      refine p_22_20 C q4_136 dX12_leaves_57 ?_
      refine m_tops (fun τ24 eτ24 => ?_)
      have i25 : Inv τ24 := eτ24 ▸ Inv.put i14 (by decide) (iv_wk b23 (by decide))
      have f26 : Fr MS_X12_leaves AS_X12_leaves σ τ24 := eτ24 ▸ Fr.put (f15) (Or.inl (by decide))
      have q27 : (gV τ24 22 0 20).toInt = x22.toInt := congrArg Int32.toInt (show (gV τ24 22 0 20) = x22 from (show gV τ24 22 0 20 = x22 from gV_put eτ24 (gV_self _ _ _ _ _)))
      exact m_vret C hr hlk (by decide) (by decide) dX12_leaves_60 ⟨rfl, i25, f26, (by omega)⟩
    · have f28 : 0 < a2.toInt := by
        have q : _ := c19
        simp only [ti_nle, ti_nlt, ti_le, ti_lt, ti_eq, ti_ne, Classical.not_not, kt_0] at q
        omega
      have b29 : IV a2 1 2147483647 := ⟨by have q1 := kc_0; have q2 := (iv_any a2); omega, by have q1 := kc_0; have q2 := (iv_any a2); omega⟩
      refine m_iconst (v := 2) C dX12_leaves_51 (by decide) ?_
      refine m_goto (tgt := 56) C dX12_leaves_52 (by decide) ?_
      refine m_iadd C dX12_leaves_56 ?_
      refine m_topi (fun x30 ex30 => ?_)
      have tx30 : x30.toInt = (gV σ 22 0 20).toInt + 2 := by rw [ex30, ti_addv b2 kc_2 (by decide), kt_2]
      have b31 : IV x30 2 12 := by rw [ex30]; exact iv_add b2 kc_2 (by decide)
      refine p_22_20 C q4_136 dX12_leaves_57 ?_
      refine m_tops (fun τ32 eτ32 => ?_)
      have i33 : Inv τ32 := eτ32 ▸ Inv.put i14 (by decide) (iv_wk b31 (by decide))
      have f34 : Fr MS_X12_leaves AS_X12_leaves σ τ32 := eτ32 ▸ Fr.put (f15) (Or.inl (by decide))
      have q35 : (gV τ32 22 0 20).toInt = x30.toInt := congrArg Int32.toInt (show (gV τ32 22 0 20) = x30 from (show gV τ32 22 0 20 = x30 from gV_put eτ32 (gV_self _ _ _ _ _)))
      exact m_vret C hr hlk (by decide) (by decide) dX12_leaves_60 ⟨rfl, i33, f34, (by omega)⟩
  · have f36 : 0 < a3.toInt := by
      have q : _ := c16
      simp only [ti_nle, ti_nlt, ti_le, ti_lt, ti_eq, ti_ne, Classical.not_not, kt_0] at q
      omega
    have b37 : IV a3 1 2147483647 := ⟨by have q1 := kc_0; have q2 := (iv_any a3); omega, by have q1 := kc_0; have q2 := (iv_any a3); omega⟩
    refine m_iconst (v := 3) C dX12_leaves_43 (by decide) ?_
    refine m_goto (tgt := 56) C dX12_leaves_44 (by decide) ?_
    refine m_iadd C dX12_leaves_56 ?_
    refine m_topi (fun x38 ex38 => ?_)
    have tx38 : x38.toInt = (gV σ 22 0 20).toInt + 3 := by rw [ex38, ti_addv b2 kc_3 (by decide), kt_3]
    have b39 : IV x38 3 13 := by rw [ex38]; exact iv_add b2 kc_3 (by decide)
    refine p_22_20 C q4_136 dX12_leaves_57 ?_
    refine m_tops (fun τ40 eτ40 => ?_)
    have i41 : Inv τ40 := eτ40 ▸ Inv.put i14 (by decide) (iv_wk b39 (by decide))
    have f42 : Fr MS_X12_leaves AS_X12_leaves σ τ40 := eτ40 ▸ Fr.put (f15) (Or.inl (by decide))
    have q43 : (gV τ40 22 0 20).toInt = x38.toInt := congrArg Int32.toInt (show (gV τ40 22 0 20) = x38 from (show gV τ40 22 0 20 = x38 from gV_put eτ40 (gV_self _ _ _ _ _)))
    exact m_vret C hr hlk (by decide) (by decide) dX12_leaves_60 ⟨rfl, i41, f42, (by omega)⟩

abbrev MS_X12_plainMark : List (Nat × Nat) := [(22, 20)]
abbrev AS_X12_plainMark : List Nat := [31]
set_option maxHeartbeats 4000000 in
set_option maxRecDepth 100000 in
theorem c_X12_plainMark (l : Launch) (G : Gt) (σ : Sg) (a1 : Int32) (hI : Inv σ) (ha1 : IV a1 0 6) (htr : (gV σ 22 0 20).toInt ≤ 10) : Mc l G yX12_plainMark cX12_plainMark 3 (some .int) 1 23 0 0 [.ref (G.1 22 0), .int a1] σ (PI fun r τ => Inv τ ∧ Fr MS_X12_plainMark AS_X12_plainMark σ τ ∧ IV r (-2147483648) 2147483647 ∧ (gV τ 22 0 20).toInt ≤ (gV σ 22 0 20).toInt + 3) := by
  refine Mc.of (L0 := [some (.ref (G.1 22 0)), some (.int a1), none]) (by decide) (Nat.le_of_ble_eq_true rfl) rfl ?_
  intro p e s m args below meth c C hr hlk
  have C : Cx p s m args c cX12_plainMark 3 "LeanTowerModel" := C
  have k0 : (0 : Int32).toInt = 0 := by decide
  have k1 : (1 : Int32).toInt = 1 := by decide
  have u1 : IV (gV σ 22 0 20) 0 13 := hI.1 22 0 20
  refine m_iload_n C dX12_plainMark_0 rfl rfl ?_
  refine m_aload_n C dX12_plainMark_1 rfl rfl ?_
  refine g_22_0 C q4_116 dX12_plainMark_2 ?_
  refine m_bipush (v := 17) C dX12_plainMark_5 (by decide) ?_
  refine m_iload_n C dX12_plainMark_7 rfl rfl ?_
  refine m_iadd C dX12_plainMark_8 ?_
  refine m_topi (fun x2 ex2 => ?_)
  have tx2 : x2.toInt = 17 + a1.toInt := by rw [ex2, ti_addv kc_17 ha1 (by decide), kt_17]
  have b3 : IV x2 17 23 := by rw [ex2]; exact iv_add kc_17 ha1 (by decide)
  refine al_23 C b3 (by decide) rfl dX12_plainMark_9 ?_
  refine m_topi (fun x4 ex4 => ?_)
  refine m_iadd C dX12_plainMark_10 ?_
  refine m_topi (fun x5 ex5 => ?_)
  refine m_istore_n (L1 := [some (.ref (G.1 22 0)), some (.int a1), some (.int x5)]) C dX12_plainMark_11 rfl (by decide) rfl rfl ?_
  refine m_aload_n C dX12_plainMark_12 rfl rfl ?_
  refine g_22_0 C q4_116 dX12_plainMark_13 ?_
  refine m_iconst (v := 3) C dX12_plainMark_16 (by decide) ?_
  refine m_iload_n C dX12_plainMark_17 rfl rfl ?_
  refine m_iadd C dX12_plainMark_18 ?_
  refine m_topi (fun x6 ex6 => ?_)
  have tx6 : x6.toInt = 3 + a1.toInt := by rw [ex6, ti_addv kc_3 ha1 (by decide), kt_3]
  have b7 : IV x6 3 9 := by rw [ex6]; exact iv_add kc_3 ha1 (by decide)
  refine al_23 C b7 (by decide) rfl dX12_plainMark_19 ?_
  refine m_topi (fun x8 ex8 => ?_)
  by_cases s9 : x8.toInt = 2
  · refine m_lookup (tgt := 48) (off := 28) C dX12_plainMark_20 rfl (by rw [s9]; rfl) (by decide) ?_
    refine m_aload_n C dX12_plainMark_48 rfl rfl ?_
    refine m_bipush (v := 22) C dX12_plainMark_49 (by decide) ?_
    refine m_bipush (v := 21) C dX12_plainMark_51 (by decide) ?_
    refine m_bipush (v := 20) C dX12_plainMark_53 (by decide) ?_
    have q10 := kt_22
    have q11 := kt_21
    have q12 := kt_20
    refine m_callV (n := 3) (ci := 11) (st := []) C (c_X12_leaves l G σ (22) (21) (20) hI (by omega)) (by decide) (by decide) rfl rfl rfl q5_205 q5_202 q5_204 q0_49 q1_7 (by decide +kernel) rfl (by decide) (by decide) rfl (Nat.le_of_ble_eq_true rfl) dX12_plainMark_55 ?_
    rintro _ τ13 ⟨rfl, i14, f15, h19⟩
    have g18 : Fr MS_X12_plainMark AS_X12_plainMark σ τ13 := Fr.call (Fr.rf) f15 (by decide)
    have u20 : IV (gV τ13 22 0 20) 0 13 := i14.1 22 0 20
    show MW p l e _ s m args below meth c _ 3 G 0 0 58 [some (.ref (G.1 22 0)), some (.int a1), some (.int x5)] [] τ13
    refine m_iload_n C dX12_plainMark_58 rfl rfl ?_
    refine m_sipush (v := 1000) C dX12_plainMark_59 (by decide) ?_
    refine m_isub C dX12_plainMark_62 ?_
    refine m_topi (fun x21 ex21 => ?_)
    exact m_iret C hr hlk (by decide) (by decide) dX12_plainMark_63 ⟨_, rfl, i14, g18, (iv_any x21), (by omega)⟩
  by_cases s22 : x8.toInt = 3
  · refine m_lookup (tgt := 64) (off := 44) C dX12_plainMark_20 rfl (by rw [s22]; rfl) (by decide) ?_
    refine m_aload_n C dX12_plainMark_64 rfl rfl ?_
    refine m_bipush (v := 24) C dX12_plainMark_65 (by decide) ?_
    refine m_bipush (v := 21) C dX12_plainMark_67 (by decide) ?_
    refine m_bipush (v := 20) C dX12_plainMark_69 (by decide) ?_
    have q23 := kt_24
    have q24 := kt_21
    have q25 := kt_20
    refine m_callV (n := 3) (ci := 11) (st := []) C (c_X12_leaves l G σ (24) (21) (20) hI (by omega)) (by decide) (by decide) rfl rfl rfl q5_205 q5_202 q5_204 q0_49 q1_7 (by decide +kernel) rfl (by decide) (by decide) rfl (Nat.le_of_ble_eq_true rfl) dX12_plainMark_71 ?_
    rintro _ τ26 ⟨rfl, i27, f28, h32⟩
    have g31 : Fr MS_X12_plainMark AS_X12_plainMark σ τ26 := Fr.call (Fr.rf) f28 (by decide)
    have u33 : IV (gV τ26 22 0 20) 0 13 := i27.1 22 0 20
    show MW p l e _ s m args below meth c _ 3 G 0 0 74 [some (.ref (G.1 22 0)), some (.int a1), some (.int x5)] [] τ26
    refine m_iconst (v := 2) C dX12_plainMark_74 (by decide) ?_
    refine m_iload_n C dX12_plainMark_75 rfl rfl ?_
    refine m_imul C dX12_plainMark_76 ?_
    refine m_topi (fun x34 ex34 => ?_)
    exact m_iret C hr hlk (by decide) (by decide) dX12_plainMark_77 ⟨_, rfl, i27, g31, (iv_any x34), (by omega)⟩
  refine m_lookup (tgt := 78) (off := 58) C dX12_plainMark_20 rfl (by simp [Op.lookupswitch.offset, Ne.symm s9, Ne.symm s22]) (by decide) ?_
  refine m_aload_n C dX12_plainMark_78 rfl rfl ?_
  refine m_bipush (v := 21) C dX12_plainMark_79 (by decide) ?_
  refine m_bipush (v := 20) C dX12_plainMark_81 (by decide) ?_
  refine m_iconst (v := 0) C dX12_plainMark_83 (by decide) ?_
  have q35 := kt_21
  have q36 := kt_20
  have q37 := kt_0
  refine m_callV (n := 3) (ci := 11) (st := []) C (c_X12_leaves l G σ (21) (20) (0) hI (by omega)) (by decide) (by decide) rfl rfl rfl q5_205 q5_202 q5_204 q0_49 q1_7 (by decide +kernel) rfl (by decide) (by decide) rfl (Nat.le_of_ble_eq_true rfl) dX12_plainMark_84 ?_
  rintro _ τ38 ⟨rfl, i39, f40, h44⟩
  have g43 : Fr MS_X12_plainMark AS_X12_plainMark σ τ38 := Fr.call (Fr.rf) f40 (by decide)
  have u45 : IV (gV τ38 22 0 20) 0 13 := i39.1 22 0 20
  show MW p l e _ s m args below meth c _ 3 G 0 0 87 [some (.ref (G.1 22 0)), some (.int a1), some (.int x5)] [] τ38
  refine m_iload_n C dX12_plainMark_87 rfl rfl ?_
  exact m_iret C hr hlk (by decide) (by decide) dX12_plainMark_88 ⟨_, rfl, i39, g43, (iv_any x5), (by omega)⟩

abbrev MS_X12_size : List (Nat × Nat) := [(22, 20)]
abbrev AS_X12_size : List Nat := [31]
set_option maxHeartbeats 4000000 in
set_option maxRecDepth 100000 in
theorem c_X12_size (l : Launch) (G : Gt) (σ : Sg) (a1 : Int32) (hI : Inv σ) (ha1 : IV a1 0 6) (htr : (gV σ 22 0 20).toInt ≤ 7) : Mc l G yX12_size cX12_size 3 (some .int) 2 45 0 0 [.ref (G.1 22 0), .int a1] σ (PI fun r τ => Inv τ ∧ Fr MS_X12_size AS_X12_size σ τ ∧ IV r (-2147483648) 2147483647 ∧ (gV τ 22 0 20).toInt ≤ (gV σ 22 0 20).toInt + 6) := by
  refine Mc.of (L0 := [some (.ref (G.1 22 0)), some (.int a1), none]) (by decide) (Nat.le_of_ble_eq_true rfl) rfl ?_
  intro p e s m args below meth c C hr hlk
  have C : Cx p s m args c cX12_size 3 "LeanTowerModel" := C
  have k0 : (0 : Int32).toInt = 0 := by decide
  have k1 : (1 : Int32).toInt = 1 := by decide
  have u1 : IV (gV σ 22 0 20) 0 13 := hI.1 22 0 20
  refine m_aload_n C dX12_size_0 rfl rfl ?_
  refine m_iload_n C dX12_size_1 rfl rfl ?_
  refine m_callV (n := 1) (ci := 11) (st := []) C (c_X12_burdenOf l G σ (a1) hI ha1) (by decide) (by decide) rfl rfl rfl q5_86 q5_83 q5_85 q0_42 q1_7 (by decide +kernel) rfl (by decide) (by decide) rfl (Nat.le_of_ble_eq_true rfl) dX12_size_2 ?_
  rintro _ τ2 ⟨x5, rfl, i3, f4, b6⟩
  have g7 : Fr MS_X12_size AS_X12_size σ τ2 := Fr.call (Fr.rf) f4 (by decide)
  show MW p l e _ s m args below meth c _ 3 G 0 0 5 [some (.ref (G.1 22 0)), some (.int a1), none] [.int x5] τ2
  refine m_istore_n (L1 := [some (.ref (G.1 22 0)), some (.int a1), some (.int x5)]) C dX12_size_5 rfl (by decide) rfl rfl ?_
  refine m_aload_n C dX12_size_6 rfl rfl ?_
  refine g_22_0 C q4_116 dX12_size_7 ?_
  refine m_iconst (v := 3) C dX12_size_10 (by decide) ?_
  refine m_iload_n C dX12_size_11 rfl rfl ?_
  refine m_iadd C dX12_size_12 ?_
  refine m_topi (fun x9 ex9 => ?_)
  have tx9 : x9.toInt = 3 + a1.toInt := by rw [ex9, ti_addv kc_3 ha1 (by decide), kt_3]
  have b10 : IV x9 3 9 := by rw [ex9]; exact iv_add kc_3 ha1 (by decide)
  refine al_23 C b10 (by decide) rfl dX12_size_13 ?_
  refine m_topi (fun x11 ex11 => ?_)
  by_cases s12 : x11.toInt < 3 ∨ 5 < x11.toInt
  · refine m_tableOut (tgt := 90) C dX12_size_14 s12 (by decide) ?_
    refine m_aload_n C dX12_size_90 rfl rfl ?_
    refine m_bipush (v := 11) C dX12_size_91 (by decide) ?_
    refine m_bipush (v := 10) C dX12_size_93 (by decide) ?_
    refine m_iconst (v := 0) C dX12_size_95 (by decide) ?_
    have q13 : (gV τ2 22 0 20).toInt = (gV σ 22 0 20).toInt := congrArg Int32.toInt (show (gV τ2 22 0 20) = (gV σ 22 0 20) from (show gV τ2 22 0 20 = (gV σ 22 0 20) from (f4.1 22 0 (20) (by decide) (by decide)).trans rfl))
    have q14 := kt_11
    have q15 := kt_10
    have q16 := kt_0
    refine m_callV (n := 3) (ci := 11) (st := []) C (c_X12_leaves l G τ2 (11) (10) (0) i3 (by omega)) (by decide) (by decide) rfl rfl rfl q5_205 q5_202 q5_204 q0_49 q1_7 (by decide +kernel) rfl (by decide) (by decide) rfl (Nat.le_of_ble_eq_true rfl) dX12_size_96 ?_
    rintro _ τ17 ⟨rfl, i18, f19, h23⟩
    have g22 : Fr MS_X12_size AS_X12_size σ τ17 := Fr.call (g7) f19 (by decide)
    have u24 : IV (gV τ17 22 0 20) 0 13 := i18.1 22 0 20
    show MW p l e _ s m args below meth c _ 3 G 0 0 99 [some (.ref (G.1 22 0)), some (.int a1), some (.int x5)] [] τ17
    refine m_iload_n C dX12_size_99 rfl rfl ?_
    refine m_aload_n C dX12_size_100 rfl rfl ?_
    refine m_iload_n C dX12_size_101 rfl rfl ?_
    refine m_callV (n := 1) (ci := 11) (st := [.int x5]) C (c_X12_plainMark l G τ17 (a1) i18 ha1 (by omega)) (by decide) (by decide) rfl rfl rfl q5_209 q5_206 q5_208 q0_50 q1_7 (by decide +kernel) rfl (by decide) (by decide) rfl (Nat.le_of_ble_eq_true rfl) dX12_size_102 ?_
    rintro _ τ25 ⟨x28, rfl, i26, f27, b29, h31⟩
    have g30 : Fr MS_X12_size AS_X12_size σ τ25 := Fr.call (g22) f27 (by decide)
    have u32 : IV (gV τ25 22 0 20) 0 13 := i26.1 22 0 20
    show MW p l e _ s m args below meth c _ 3 G 0 0 105 [some (.ref (G.1 22 0)), some (.int a1), some (.int x5)] [.int x28, .int x5] τ25
    refine m_iadd C dX12_size_105 ?_
    refine m_topi (fun x33 ex33 => ?_)
    exact m_iret C hr hlk (by decide) (by decide) dX12_size_106 ⟨_, rfl, i26, g30, (iv_any x33), (by omega)⟩
  by_cases s34 : x11.toInt = 3
  · refine m_tableIn (tgt := 71) (off := 57) C dX12_size_14 (by omega) (by omega) (by rw [s34]; rfl) (by decide) ?_
    have b35 : IV x11 3 3 := ⟨by omega, by omega⟩
    refine m_aload_n C dX12_size_71 rfl rfl ?_
    refine m_bipush (v := 12) C dX12_size_72 (by decide) ?_
    refine m_bipush (v := 11) C dX12_size_74 (by decide) ?_
    refine m_bipush (v := 10) C dX12_size_76 (by decide) ?_
    have q36 : (gV τ2 22 0 20).toInt = (gV σ 22 0 20).toInt := congrArg Int32.toInt (show (gV τ2 22 0 20) = (gV σ 22 0 20) from (show gV τ2 22 0 20 = (gV σ 22 0 20) from (f4.1 22 0 (20) (by decide) (by decide)).trans rfl))
    have q37 := kt_12
    have q38 := kt_11
    have q39 := kt_10
    refine m_callV (n := 3) (ci := 11) (st := []) C (c_X12_leaves l G τ2 (12) (11) (10) i3 (by omega)) (by decide) (by decide) rfl rfl rfl q5_205 q5_202 q5_204 q0_49 q1_7 (by decide +kernel) rfl (by decide) (by decide) rfl (Nat.le_of_ble_eq_true rfl) dX12_size_78 ?_
    rintro _ τ40 ⟨rfl, i41, f42, h46⟩
    have g45 : Fr MS_X12_size AS_X12_size σ τ40 := Fr.call (g7) f42 (by decide)
    have u47 : IV (gV τ40 22 0 20) 0 13 := i41.1 22 0 20
    show MW p l e _ s m args below meth c _ 3 G 0 0 81 [some (.ref (G.1 22 0)), some (.int a1), some (.int x5)] [] τ40
    refine m_iload_n C dX12_size_81 rfl rfl ?_
    refine m_aload_n C dX12_size_82 rfl rfl ?_
    refine m_iload_n C dX12_size_83 rfl rfl ?_
    refine m_callV (n := 1) (ci := 11) (st := [.int x5]) C (c_X12_plainMark l G τ40 (a1) i41 ha1 (by omega)) (by decide) (by decide) rfl rfl rfl q5_209 q5_206 q5_208 q0_50 q1_7 (by decide +kernel) rfl (by decide) (by decide) rfl (Nat.le_of_ble_eq_true rfl) dX12_size_84 ?_
    rintro _ τ48 ⟨x51, rfl, i49, f50, b52, h54⟩
    have g53 : Fr MS_X12_size AS_X12_size σ τ48 := Fr.call (g45) f50 (by decide)
    have u55 : IV (gV τ48 22 0 20) 0 13 := i49.1 22 0 20
    show MW p l e _ s m args below meth c _ 3 G 0 0 87 [some (.ref (G.1 22 0)), some (.int a1), some (.int x5)] [.int x51, .int x5] τ48
    refine m_iadd C dX12_size_87 ?_
    refine m_topi (fun x56 ex56 => ?_)
    refine m_ineg C dX12_size_88 ?_
    refine m_topi (fun x57 ex57 => ?_)
    exact m_iret C hr hlk (by decide) (by decide) dX12_size_89 ⟨_, rfl, i49, g53, (iv_any x57), (by omega)⟩
  by_cases s58 : x11.toInt = 4
  · refine m_tableIn (tgt := 40) (off := 26) C dX12_size_14 (by omega) (by omega) (by rw [s58]; rfl) (by decide) ?_
    have b59 : IV x11 4 4 := ⟨by omega, by omega⟩
    refine m_aload_n C dX12_size_40 rfl rfl ?_
    refine m_bipush (v := 13) C dX12_size_41 (by decide) ?_
    refine m_bipush (v := 10) C dX12_size_43 (by decide) ?_
    refine m_iconst (v := 0) C dX12_size_45 (by decide) ?_
    have q60 : (gV τ2 22 0 20).toInt = (gV σ 22 0 20).toInt := congrArg Int32.toInt (show (gV τ2 22 0 20) = (gV σ 22 0 20) from (show gV τ2 22 0 20 = (gV σ 22 0 20) from (f4.1 22 0 (20) (by decide) (by decide)).trans rfl))
    have q61 := kt_13
    have q62 := kt_10
    have q63 := kt_0
    refine m_callV (n := 3) (ci := 11) (st := []) C (c_X12_leaves l G τ2 (13) (10) (0) i3 (by omega)) (by decide) (by decide) rfl rfl rfl q5_205 q5_202 q5_204 q0_49 q1_7 (by decide +kernel) rfl (by decide) (by decide) rfl (Nat.le_of_ble_eq_true rfl) dX12_size_46 ?_
    rintro _ τ64 ⟨rfl, i65, f66, h70⟩
    have g69 : Fr MS_X12_size AS_X12_size σ τ64 := Fr.call (g7) f66 (by decide)
    have u71 : IV (gV τ64 22 0 20) 0 13 := i65.1 22 0 20
    show MW p l e _ s m args below meth c _ 3 G 0 0 49 [some (.ref (G.1 22 0)), some (.int a1), some (.int x5)] [] τ64
    refine m_iload_n C dX12_size_49 rfl rfl ?_
    refine m_bipush (v := 100) C dX12_size_50 (by decide) ?_
    refine m_isub C dX12_size_52 ?_
    refine m_topi (fun x72 ex72 => ?_)
    exact m_iret C hr hlk (by decide) (by decide) dX12_size_53 ⟨_, rfl, i65, g69, (iv_any x72), (by omega)⟩
  by_cases s73 : x11.toInt = 5
  · refine m_tableIn (tgt := 54) (off := 40) C dX12_size_14 (by omega) (by omega) (by rw [s73]; rfl) (by decide) ?_
    have b74 : IV x11 5 5 := ⟨by omega, by omega⟩
    refine m_aload_n C dX12_size_54 rfl rfl ?_
    refine m_bipush (v := 14) C dX12_size_55 (by decide) ?_
    refine m_bipush (v := 13) C dX12_size_57 (by decide) ?_
    refine m_bipush (v := 10) C dX12_size_59 (by decide) ?_
    have q75 : (gV τ2 22 0 20).toInt = (gV σ 22 0 20).toInt := congrArg Int32.toInt (show (gV τ2 22 0 20) = (gV σ 22 0 20) from (show gV τ2 22 0 20 = (gV σ 22 0 20) from (f4.1 22 0 (20) (by decide) (by decide)).trans rfl))
    have q76 := kt_14
    have q77 := kt_13
    have q78 := kt_10
    refine m_callV (n := 3) (ci := 11) (st := []) C (c_X12_leaves l G τ2 (14) (13) (10) i3 (by omega)) (by decide) (by decide) rfl rfl rfl q5_205 q5_202 q5_204 q0_49 q1_7 (by decide +kernel) rfl (by decide) (by decide) rfl (Nat.le_of_ble_eq_true rfl) dX12_size_61 ?_
    rintro _ τ79 ⟨rfl, i80, f81, h85⟩
    have g84 : Fr MS_X12_size AS_X12_size σ τ79 := Fr.call (g7) f81 (by decide)
    have u86 : IV (gV τ79 22 0 20) 0 13 := i80.1 22 0 20
    show MW p l e _ s m args below meth c _ 3 G 0 0 64 [some (.ref (G.1 22 0)), some (.int a1), some (.int x5)] [] τ79
    refine m_iconst (v := 2) C dX12_size_64 (by decide) ?_
    refine m_iload_n C dX12_size_65 rfl rfl ?_
    refine m_bipush (v := 100) C dX12_size_66 (by decide) ?_
    refine m_isub C dX12_size_68 ?_
    refine m_topi (fun x87 ex87 => ?_)
    refine m_imul C dX12_size_69 ?_
    refine m_topi (fun x88 ex88 => ?_)
    exact m_iret C hr hlk (by decide) (by decide) dX12_size_70 ⟨_, rfl, i80, g84, (iv_any x88), (by omega)⟩
  exact absurd s12 (by omega)

abbrev MS_X12_ask : List (Nat × Nat) := [(22, 20)]
abbrev AS_X12_ask : List Nat := [31]
set_option maxHeartbeats 4000000 in
set_option maxRecDepth 100000 in
theorem c_X12_ask (l : Launch) (G : Gt) (σ : Sg) (a1 : Int32) (a2 : Int32) (hI : Inv σ) : Mc l G yX12_ask cX12_ask 3 (some .int) 3 67 0 0 [.ref (G.1 22 0), .int a1, .int a2] σ (PI fun r τ => Inv τ ∧ Fr MS_X12_ask AS_X12_ask σ τ ∧ IV r (-2147483648) 2147483647) := by
  refine Mc.of (L0 := [some (.ref (G.1 22 0)), some (.int a1), some (.int a2)]) (by decide) (Nat.le_of_ble_eq_true rfl) rfl ?_
  intro p e s m args below meth c C hr hlk
  have C : Cx p s m args c cX12_ask 3 "LeanTowerModel" := C
  have k0 : (0 : Int32).toInt = 0 := by decide
  have k1 : (1 : Int32).toInt = 1 := by decide
  have u1 : IV (gV σ 22 0 20) 0 13 := hI.1 22 0 20
  refine m_aload_n C dX12_ask_0 rfl rfl ?_
  refine m_iload_n C dX12_ask_1 rfl rfl ?_
  refine m_callV (n := 1) (ci := 11) (st := []) C (c_X12_isOne l G σ (a1) hI ) (by decide) (by decide) rfl rfl rfl q5_50 q5_47 q5_49 q0_36 q1_7 (by decide +kernel) rfl (by decide) (by decide) rfl (Nat.le_of_ble_eq_true rfl) dX12_ask_2 ?_
  rintro _ τ2 ⟨x5, rfl, i3, f4, b6, h8⟩
  have g7 : Fr MS_X12_ask AS_X12_ask σ τ2 := Fr.call (Fr.rf) f4 (by decide)
  have q9 : (gV τ2 22 0 20).toInt = (gV σ 22 0 20).toInt := congrArg Int32.toInt (show (gV τ2 22 0 20) = (gV σ 22 0 20) from (show gV τ2 22 0 20 = (gV σ 22 0 20) from (f4.1 22 0 (20) (by decide) (by decide)).trans rfl))
  show MW p l e _ s m args below meth c _ 3 G 0 0 5 [some (.ref (G.1 22 0)), some (.int a1), some (.int a2)] [.int x5] τ2
  refine m_if_eq (tgt := 18) C dX12_ask_5 (by decide) (fun c10 => ?_) (fun c10 => ?_)
  · have f11 : x5.toInt = 0 := by
      have q : _ := c10
      simp only [ti_nle, ti_nlt, ti_le, ti_lt, ti_eq, ti_ne, Classical.not_not, kt_0] at q
      omega
    have b12 : IV x5 0 0 := ⟨by have q1 := b6; have q2 := kc_0; omega, by have q1 := b6; have q2 := kc_0; omega⟩
    refine m_ldc (v := (-1000001)) C dX12_ask_18 q4_192 ?_
    exact m_iret C hr hlk (by decide) (by decide) dX12_ask_20 ⟨_, rfl, i3, g7, (iv_wk kc_m1000001 (by decide))⟩
  · have f13 : x5.toInt ≠ 0 := by
      have q : _ := c10
      simp only [ti_nle, ti_nlt, ti_le, ti_lt, ti_eq, ti_ne, Classical.not_not, kt_0] at q
      omega
    have b14 : IV x5 1 1 := ⟨by have q1 := b6; have q2 := kc_0; omega, by have q1 := b6; have q2 := kc_0; omega⟩
    have b15 : IV a1 0 6 := ⟨by have q1 := (iv_any a1); omega, by have q1 := (iv_any a1); omega⟩
    refine m_iload_n C dX12_ask_8 rfl rfl ?_
    refine m_i2l C dX12_ask_9 ?_
    refine m_lconst (v := 0) C dX12_ask_10 (by decide) ?_
    refine m_lconst (v := 1) C dX12_ask_11 (by decide) ?_
    refine m_callS (n := 3) (st := []) C (c_X12_in l G τ2 ((a2 : Int32).toInt64) (0) (1) i3 ) q4_190 q4_188 q4_189 q1_7 (by decide +kernel) rfl (by decide) (by decide) rfl (Nat.le_of_ble_eq_true rfl) dX12_ask_12 ?_
    rintro _ τ16 ⟨x19, rfl, i17, f18, b20, h22⟩
    have g21 : Fr MS_X12_ask AS_X12_ask σ τ16 := Fr.call (g7) f18 (by decide)
    have q23 : (gV τ16 22 0 20).toInt = (gV σ 22 0 20).toInt := congrArg Int32.toInt (show (gV τ16 22 0 20) = (gV σ 22 0 20) from (show gV τ16 22 0 20 = (gV σ 22 0 20) from (f18.1 22 0 (20) (by decide) (by decide)).trans (show gV τ2 22 0 20 = (gV σ 22 0 20) from (f4.1 22 0 (20) (by decide) (by decide)).trans rfl)))
    have f24 := tl_i a2
    have f25 := kl_0
    have f26 := kl_1
    show MW p l e _ s m args below meth c _ 3 G 0 0 15 [some (.ref (G.1 22 0)), some (.int a1), some (.int a2)] [.int x19] τ16
    refine m_if_ne (tgt := 21) C dX12_ask_15 (by decide) (fun c27 => ?_) (fun c27 => ?_)
    · have f28 : x19.toInt ≠ 0 := by
        have q : _ := c27
        simp only [ti_nle, ti_nlt, ti_le, ti_lt, ti_eq, ti_ne, Classical.not_not, kt_0] at q
        omega
      have b29 : IV x19 1 1 := ⟨by have q1 := b20; have q2 := kc_0; omega, by have q1 := b20; have q2 := kc_0; omega⟩
      have b30 : IV a2 0 1 := ⟨by have q1 := (iv_any a2); omega, by have q1 := (iv_any a2); omega⟩
      refine m_aload_n C dX12_ask_21 rfl rfl ?_
      refine m_iconst (v := 0) C dX12_ask_22 (by decide) ?_
      refine p_22_20 C q4_136 dX12_ask_23 ?_
      refine m_tops (fun τ31 eτ31 => ?_)
      have i32 : Inv τ31 := eτ31 ▸ Inv.put i17 (by decide) (iv_wk kc_0 (by decide))
      have f33 : Fr MS_X12_ask AS_X12_ask σ τ31 := eτ31 ▸ Fr.put (g21) (Or.inl (by decide))
      refine m_iload_n C dX12_ask_26 rfl rfl ?_
      refine m_if_ne (tgt := 36) C dX12_ask_27 (by decide) (fun c34 => ?_) (fun c34 => ?_)
      · have f35 : a2.toInt ≠ 0 := by
          have q : _ := c34
          simp only [ti_nle, ti_nlt, ti_le, ti_lt, ti_eq, ti_ne, Classical.not_not, kt_0] at q
          omega
        have b36 : IV a2 1 1 := ⟨by have q1 := b30; have q2 := kc_0; omega, by have q1 := b30; have q2 := kc_0; omega⟩
        refine m_aload_n C dX12_ask_36 rfl rfl ?_
        refine g_22_0 C q4_116 dX12_ask_37 ?_
        refine m_iconst (v := 3) C dX12_ask_40 (by decide) ?_
        refine m_iload_n C dX12_ask_41 rfl rfl ?_
        refine m_iadd C dX12_ask_42 ?_
        refine m_topi (fun x37 ex37 => ?_)
        have tx37 : x37.toInt = 3 + a1.toInt := by rw [ex37, ti_addv kc_3 b15 (by decide), kt_3]
        have b38 : IV x37 3 9 := by rw [ex37]; exact iv_add kc_3 b15 (by decide)
        refine al_23 C b38 (by decide) rfl dX12_ask_43 ?_
        refine m_topi (fun x39 ex39 => ?_)
        refine m_iconst (v := 4) C dX12_ask_44 (by decide) ?_
        refine m_icmp_ge (tgt := 54) C dX12_ask_45 (by decide) (fun c40 => ?_) (fun c40 => ?_)
        · have f41 : 4 ≤ x39.toInt := by
            have q : _ := c40
            simp only [ti_nle, ti_nlt, ti_le, ti_lt, ti_eq, ti_ne, Classical.not_not, kt_4] at q
            omega
          have b42 : IV x39 4 2147483647 := ⟨by have q1 := kc_4; have q2 := (iv_any x39); omega, by have q1 := kc_4; have q2 := (iv_any x39); omega⟩
          refine m_aload_n C dX12_ask_54 rfl rfl ?_
          refine m_bipush (v := 23) C dX12_ask_55 (by decide) ?_
          refine m_bipush (v := 20) C dX12_ask_57 (by decide) ?_
          refine m_iconst (v := 0) C dX12_ask_59 (by decide) ?_
          have q43 : (gV τ31 22 0 20).toInt = 0 := (congrArg Int32.toInt (show (gV τ31 22 0 20) = 0 from (show gV τ31 22 0 20 = 0 from gV_put eτ31 (gV_self _ _ _ _ _)))).trans kt_0
          have q44 := kt_23
          have q45 := kt_20
          have q46 := kt_0
          refine m_callV (n := 3) (ci := 11) (st := []) C (c_X12_leaves l G τ31 (23) (20) (0) i32 (by omega)) (by decide) (by decide) rfl rfl rfl q5_205 q5_202 q5_204 q0_49 q1_7 (by decide +kernel) rfl (by decide) (by decide) rfl (Nat.le_of_ble_eq_true rfl) dX12_ask_60 ?_
          rintro _ τ47 ⟨rfl, i48, f49, h53⟩
          have g52 : Fr MS_X12_ask AS_X12_ask σ τ47 := Fr.call (f33) f49 (by decide)
          have u54 : IV (gV τ47 22 0 20) 0 13 := i48.1 22 0 20
          show MW p l e _ s m args below meth c _ 3 G 0 0 63 [some (.ref (G.1 22 0)), some (.int a1), some (.int a2)] [] τ47
          refine m_iload_n C dX12_ask_63 rfl rfl ?_
          refine m_aload_n C dX12_ask_64 rfl rfl ?_
          refine m_iload_n C dX12_ask_65 rfl rfl ?_
          refine m_callV (n := 1) (ci := 11) (st := [.int a1]) C (c_X12_size l G τ47 (a1) i48 b15 (by omega)) (by decide) (by decide) rfl rfl rfl q5_201 q5_198 q5_200 q0_48 q1_7 (by decide +kernel) rfl (by decide) (by decide) rfl (Nat.le_of_ble_eq_true rfl) dX12_ask_66 ?_
          rintro _ τ55 ⟨x58, rfl, i56, f57, b59, h61⟩
          have g60 : Fr MS_X12_ask AS_X12_ask σ τ55 := Fr.call (g52) f57 (by decide)
          have u62 : IV (gV τ55 22 0 20) 0 13 := i56.1 22 0 20
          show MW p l e _ s m args below meth c _ 3 G 0 0 69 [some (.ref (G.1 22 0)), some (.int a1), some (.int a2)] [.int x58, .int a1] τ55
          refine m_isub C dX12_ask_69 ?_
          refine m_topi (fun x63 ex63 => ?_)
          exact m_iret C hr hlk (by decide) (by decide) dX12_ask_70 ⟨_, rfl, i56, g60, (iv_any x63)⟩
        · have f64 : x39.toInt < 4 := by
            have q : _ := c40
            simp only [ti_nle, ti_nlt, ti_le, ti_lt, ti_eq, ti_ne, Classical.not_not, kt_4] at q
            omega
          have b65 : IV x39 (-2147483648) 3 := ⟨by have q1 := (iv_any x39); have q2 := kc_4; omega, by have q1 := (iv_any x39); have q2 := kc_4; omega⟩
          refine m_aload_n C dX12_ask_48 rfl rfl ?_
          refine m_iload_n C dX12_ask_49 rfl rfl ?_
          have q66 : (gV τ31 22 0 20).toInt = 0 := (congrArg Int32.toInt (show (gV τ31 22 0 20) = 0 from (show gV τ31 22 0 20 = 0 from gV_put eτ31 (gV_self _ _ _ _ _)))).trans kt_0
          refine m_callV (n := 1) (ci := 11) (st := []) C (c_X12_plainMark l G τ31 (a1) i32 b15 (by omega)) (by decide) (by decide) rfl rfl rfl q5_209 q5_206 q5_208 q0_50 q1_7 (by decide +kernel) rfl (by decide) (by decide) rfl (Nat.le_of_ble_eq_true rfl) dX12_ask_50 ?_
          rintro _ τ67 ⟨x70, rfl, i68, f69, b71, h73⟩
          have g72 : Fr MS_X12_ask AS_X12_ask σ τ67 := Fr.call (f33) f69 (by decide)
          have u74 : IV (gV τ67 22 0 20) 0 13 := i68.1 22 0 20
          show MW p l e _ s m args below meth c _ 3 G 0 0 53 [some (.ref (G.1 22 0)), some (.int a1), some (.int a2)] [.int x70] τ67
          exact m_iret C hr hlk (by decide) (by decide) dX12_ask_53 ⟨_, rfl, i68, g72, b71⟩
      · have f75 : a2.toInt = 0 := by
          have q : _ := c34
          simp only [ti_nle, ti_nlt, ti_le, ti_lt, ti_eq, ti_ne, Classical.not_not, kt_0] at q
          omega
        have b76 : IV a2 0 0 := ⟨by have q1 := b30; have q2 := kc_0; omega, by have q1 := b30; have q2 := kc_0; omega⟩
        refine m_aload_n C dX12_ask_30 rfl rfl ?_
        refine m_iload_n C dX12_ask_31 rfl rfl ?_
        have q77 : (gV τ31 22 0 20).toInt = 0 := (congrArg Int32.toInt (show (gV τ31 22 0 20) = 0 from (show gV τ31 22 0 20 = 0 from gV_put eτ31 (gV_self _ _ _ _ _)))).trans kt_0
        refine m_callV (n := 1) (ci := 11) (st := []) C (c_X12_size l G τ31 (a1) i32 b15 (by omega)) (by decide) (by decide) rfl rfl rfl q5_201 q5_198 q5_200 q0_48 q1_7 (by decide +kernel) rfl (by decide) (by decide) rfl (Nat.le_of_ble_eq_true rfl) dX12_ask_32 ?_
        rintro _ τ78 ⟨x81, rfl, i79, f80, b82, h84⟩
        have g83 : Fr MS_X12_ask AS_X12_ask σ τ78 := Fr.call (f33) f80 (by decide)
        have u85 : IV (gV τ78 22 0 20) 0 13 := i79.1 22 0 20
        show MW p l e _ s m args below meth c _ 3 G 0 0 35 [some (.ref (G.1 22 0)), some (.int a1), some (.int a2)] [.int x81] τ78
        exact m_iret C hr hlk (by decide) (by decide) dX12_ask_35 ⟨_, rfl, i79, g83, b82⟩
    · have f86 : x19.toInt = 0 := by
        have q : _ := c27
        simp only [ti_nle, ti_nlt, ti_le, ti_lt, ti_eq, ti_ne, Classical.not_not, kt_0] at q
        omega
      have b87 : IV x19 0 0 := ⟨by have q1 := b20; have q2 := kc_0; omega, by have q1 := b20; have q2 := kc_0; omega⟩
      refine m_ldc (v := (-1000001)) C dX12_ask_18 q4_192 ?_
      exact m_iret C hr hlk (by decide) (by decide) dX12_ask_20 ⟨_, rfl, i17, g21, (iv_wk kc_m1000001 (by decide))⟩

abbrev MS_X12_minds : List (Nat × Nat) := [(22, 9)]
abbrev AS_X12_minds : List Nat := [23]
set_option maxHeartbeats 4000000 in
set_option maxRecDepth 100000 in
theorem c_X12_minds (l : Launch) (G : Gt) (σ : Sg) (hI : Inv σ) : Mc l G yX12_minds cX12_minds 2 none 1 23 0 0 [.ref (G.1 22 0)] σ (PV fun τ => Inv τ ∧ Fr MS_X12_minds AS_X12_minds σ τ) := by
  refine Mc.of (L0 := [some (.ref (G.1 22 0)), none]) (by decide) (Nat.le_of_ble_eq_true rfl) rfl ?_
  intro p e s m args below meth c C hr hlk
  have C : Cx p s m args c cX12_minds 2 "LeanTowerModel" := C
  have k0 : (0 : Int32).toInt = 0 := by decide
  have k1 : (1 : Int32).toInt = 1 := by decide
  have J55 : ∀ (τ : Sg), Inv τ → Fr MS_X12_minds AS_X12_minds σ τ → ((gV τ 22 0 9).toInt ≤ 23) → MW p l e { frames := 1, cells := 0, slots := 0, locals := 23 } s m args below meth c (MQ below (QP G (PV fun τ => Inv τ ∧ Fr MS_X12_minds AS_X12_minds σ τ)) args s 0 0 (aG G)) 2 G 0 0 55 [some (.ref (G.1 22 0)), none] [] τ := by
    intro τ iτ fτ n1
    have u2 : IV (gV τ 22 0 9) 0 24 := iτ.1 22 0 9
    have b3 : IV (gV τ 22 0 9) 0 23 := ⟨by omega, by omega⟩
    refine m_aload_n C dX12_minds_55 rfl rfl ?_
    refine m_iconst (v := 0) C dX12_minds_56 (by decide) ?_
    refine m_sipush (v := 250) C dX12_minds_57 (by decide) ?_
    refine m_bipush (v := 50) C dX12_minds_60 (by decide) ?_
    refine m_aload_n C dX12_minds_62 rfl rfl ?_
    refine g_22_9 C q4_125 dX12_minds_63 ?_
    refine m_eqs (w := (gV τ 22 0 9)) rfl ?_
    refine m_imul C dX12_minds_66 ?_
    refine m_topi (fun x4 ex4 => ?_)
    have tx4 : x4.toInt = 50 * (gV τ 22 0 9).toInt := by rw [ex4, ti_mulv kc_50 b3 (by decide), kt_50]
    have b5 : IV x4 0 1150 := by rw [ex4]; exact iv_mul kc_50 b3 (by decide)
    refine m_iadd C dX12_minds_67 ?_
    refine m_topi (fun x6 ex6 => ?_)
    have tx6 : x6.toInt = 250 + x4.toInt := by rw [ex6, ti_addv kc_250 b5 (by decide), kt_250]
    have b7 : IV x6 250 1400 := by rw [ex6]; exact iv_add kc_250 b5 (by decide)
    have q8 := kt_0
    refine m_callV (n := 2) (ci := 11) (st := []) C (c_X12_copyAll l G τ (0) (x6) iτ (iv_wk kc_0 (by decide)) (iv_wk b7 (by decide)) (by omega) (by omega) (by omega) (Or.inl (by omega))) (by decide) (by decide) rfl rfl rfl q5_38 q5_35 q5_37 q0_35 q1_7 (by decide +kernel) rfl (by decide) (by decide) rfl (Nat.le_of_ble_eq_true rfl) dX12_minds_68 ?_
    rintro _ τ9 ⟨rfl, i10, f11, h15⟩
    have g14 : Fr MS_X12_minds AS_X12_minds σ τ9 := Fr.call (fτ) f11 (by decide)
    have q16 : (gV τ9 22 0 9).toInt = (gV τ 22 0 9).toInt := congrArg Int32.toInt (show (gV τ9 22 0 9) = (gV τ 22 0 9) from (show gV τ9 22 0 9 = (gV τ 22 0 9) from (f11.1 22 0 (9) (by decide) (by decide)).trans rfl))
    show MW p l e _ s m args below meth c _ 2 G 0 0 71 [some (.ref (G.1 22 0)), none] [] τ9
    refine m_aload_n C dX12_minds_71 rfl rfl ?_
    refine m_dup C dX12_minds_72 rfl ?_
    refine g_22_9 C q4_125 dX12_minds_73 ?_
    refine m_eqs (w := (gV τ 22 0 9)) (show gV τ9 22 0 9 = (gV τ 22 0 9) from (f11.1 22 0 (9) (by decide) (by decide)).trans rfl) ?_
    refine m_iconst (v := 1) C dX12_minds_76 (by decide) ?_
    refine m_iadd C dX12_minds_77 ?_
    refine m_topi (fun x17 ex17 => ?_)
    have tx17 : x17.toInt = (gV τ 22 0 9).toInt + 1 := by rw [ex17, ti_addv b3 kc_1 (by decide), kt_1]
    have b18 : IV x17 1 24 := by rw [ex17]; exact iv_add b3 kc_1 (by decide)
    refine p_22_9 C q4_125 dX12_minds_78 ?_
    refine m_tops (fun τ19 eτ19 => ?_)
    have i20 : Inv τ19 := eτ19 ▸ Inv.put i10 (by decide) (iv_wk b18 (by decide))
    have f21 : Fr MS_X12_minds AS_X12_minds σ τ19 := eτ19 ▸ Fr.put (g14) (Or.inl (by decide))
    have q22 : (gV τ19 22 0 9).toInt = x17.toInt := congrArg Int32.toInt (show (gV τ19 22 0 9) = x17 from (show gV τ19 22 0 9 = x17 from gV_put eτ19 (gV_self _ _ _ _ _)))
    exact m_vret C hr hlk (by decide) (by decide) dX12_minds_81 ⟨rfl, i20, f21⟩
  have J11 : ∀ (n : Nat) (τ : Sg) (y1 : Int32), Inv τ → Fr MS_X12_minds AS_X12_minds σ τ → IV y1 1 24 → ((gV τ 22 0 9).toInt = 24) → (24 - y1.toInt).toNat < n → MW p l e { frames := 1, cells := 0, slots := 0, locals := 23 } s m args below meth c (MQ below (QP G (PV fun τ => Inv τ ∧ Fr MS_X12_minds AS_X12_minds σ τ)) args s 0 0 (aG G)) 2 G 0 0 11 [some (.ref (G.1 22 0)), some (.int y1)] [] τ := by
    intro n
    induction n with
    | zero => intro τ y1 iτ fτ b_y1 n23 hm; exact absurd hm (Nat.not_lt_zero _)
    | succ n ih11 =>
      intro τ y1 iτ fτ b_y1 n23 hm11
      have u24 : IV (gV τ 22 0 9) 0 24 := iτ.1 22 0 9
      have b25 : IV (gV τ 22 0 9) 24 24 := ⟨by omega, by omega⟩
      refine m_iload_n C dX12_minds_11 rfl rfl ?_
      refine m_bipush (v := 24) C dX12_minds_12 (by decide) ?_
      refine m_icmp_ge (tgt := 45) C dX12_minds_14 (by decide) (fun c26 => ?_) (fun c26 => ?_)
      · have f27 : 24 ≤ y1.toInt := by
          have q : _ := c26
          simp only [ti_nle, ti_nlt, ti_le, ti_lt, ti_eq, ti_ne, Classical.not_not, kt_24] at q
          omega
        have b28 : IV y1 24 24 := ⟨by have q1 := kc_24; have q2 := b_y1; omega, by have q1 := kc_24; have q2 := b_y1; omega⟩
        refine m_aload_n C dX12_minds_45 rfl rfl ?_
        refine m_dup C dX12_minds_46 rfl ?_
        refine g_22_9 C q4_125 dX12_minds_47 ?_
        refine m_eqs (w := (gV τ 22 0 9)) rfl ?_
        refine m_iconst (v := 1) C dX12_minds_50 (by decide) ?_
        refine m_isub C dX12_minds_51 ?_
        refine m_topi (fun x29 ex29 => ?_)
        have tx29 : x29.toInt = (gV τ 22 0 9).toInt - 1 := by rw [ex29, ti_subv b25 kc_1 (by decide), kt_1]
        have b30 : IV x29 23 23 := by rw [ex29]; exact iv_sub b25 kc_1 (by decide)
        refine p_22_9 C q4_125 dX12_minds_52 ?_
        refine m_tops (fun τ31 eτ31 => ?_)
        have i32 : Inv τ31 := eτ31 ▸ Inv.put iτ (by decide) (iv_wk b30 (by decide))
        have f33 : Fr MS_X12_minds AS_X12_minds σ τ31 := eτ31 ▸ Fr.put (fτ) (Or.inl (by decide))
        refine m_sub (L1 := [some (.ref (G.1 22 0)), none]) ⟨rfl, trivial⟩ ?_
        have q34 : (gV τ31 22 0 9).toInt = x29.toInt := congrArg Int32.toInt (show (gV τ31 22 0 9) = x29 from (show gV τ31 22 0 9 = x29 from gV_put eτ31 (gV_self _ _ _ _ _)))
        exact J55 τ31 i32 f33 (by omega)
      · have f35 : y1.toInt < 24 := by
          have q : _ := c26
          simp only [ti_nle, ti_nlt, ti_le, ti_lt, ti_eq, ti_ne, Classical.not_not, kt_24] at q
          omega
        have b36 : IV y1 1 23 := ⟨by have q1 := b_y1; have q2 := kc_24; omega, by have q1 := b_y1; have q2 := kc_24; omega⟩
        refine m_aload_n C dX12_minds_17 rfl rfl ?_
        refine m_sipush (v := 250) C dX12_minds_18 (by decide) ?_
        refine m_bipush (v := 50) C dX12_minds_21 (by decide) ?_
        refine m_iload_n C dX12_minds_23 rfl rfl ?_
        refine m_imul C dX12_minds_24 ?_
        refine m_topi (fun x37 ex37 => ?_)
        have tx37 : x37.toInt = 50 * y1.toInt := by rw [ex37, ti_mulv kc_50 b36 (by decide), kt_50]
        have b38 : IV x37 0 1150 := by rw [ex37]; exact iv_mul kc_50 b36 (by decide)
        refine m_iadd C dX12_minds_25 ?_
        refine m_topi (fun x39 ex39 => ?_)
        have tx39 : x39.toInt = 250 + x37.toInt := by rw [ex39, ti_addv kc_250 b38 (by decide), kt_250]
        have b40 : IV x39 250 1400 := by rw [ex39]; exact iv_add kc_250 b38 (by decide)
        refine m_sipush (v := 250) C dX12_minds_26 (by decide) ?_
        refine m_bipush (v := 50) C dX12_minds_29 (by decide) ?_
        refine m_iload_n C dX12_minds_31 rfl rfl ?_
        refine m_iconst (v := 1) C dX12_minds_32 (by decide) ?_
        refine m_isub C dX12_minds_33 ?_
        refine m_topi (fun x41 ex41 => ?_)
        have tx41 : x41.toInt = y1.toInt - 1 := by rw [ex41, ti_subv b36 kc_1 (by decide), kt_1]
        have b42 : IV x41 0 22 := by rw [ex41]; exact iv_sub b36 kc_1 (by decide)
        refine m_imul C dX12_minds_34 ?_
        refine m_topi (fun x43 ex43 => ?_)
        have tx43 : x43.toInt = 50 * x41.toInt := by rw [ex43, ti_mulv kc_50 b42 (by decide), kt_50]
        have b44 : IV x43 0 1100 := by rw [ex43]; exact iv_mul kc_50 b42 (by decide)
        refine m_iadd C dX12_minds_35 ?_
        refine m_topi (fun x45 ex45 => ?_)
        have tx45 : x45.toInt = 250 + x43.toInt := by rw [ex45, ti_addv kc_250 b44 (by decide), kt_250]
        have b46 : IV x45 250 1350 := by rw [ex45]; exact iv_add kc_250 b44 (by decide)
        refine m_callV (n := 2) (ci := 11) (st := []) C (c_X12_copyAll l G τ (x39) (x45) iτ (iv_wk b40 (by decide)) (iv_wk b46 (by decide)) (by omega) (by omega) (by omega) (Or.inl (by omega))) (by decide) (by decide) rfl rfl rfl q5_38 q5_35 q5_37 q0_35 q1_7 (by decide +kernel) rfl (by decide) (by decide) rfl (Nat.le_of_ble_eq_true rfl) dX12_minds_36 ?_
        rintro _ τ47 ⟨rfl, i48, f49, h53⟩
        have g52 : Fr MS_X12_minds AS_X12_minds σ τ47 := Fr.call (fτ) f49 (by decide)
        have q54 : (gV τ47 22 0 9).toInt = (gV τ 22 0 9).toInt := congrArg Int32.toInt (show (gV τ47 22 0 9) = (gV τ 22 0 9) from (show gV τ47 22 0 9 = (gV τ 22 0 9) from (f49.1 22 0 (9) (by decide) (by decide)).trans rfl))
        show MW p l e _ s m args below meth c _ 2 G 0 0 39 [some (.ref (G.1 22 0)), some (.int y1)] [] τ47
        obtain ⟨x55, ex55⟩ : ∃ y : Int32, y = y1 + 1 := ⟨_, rfl⟩
        have tx55 : x55.toInt = y1.toInt + 1 := by rw [ex55, ti_addv b36 kc_1 (by decide), kt_1]
        have b56 : IV x55 2 24 := by rw [ex55]; exact iv_add b36 kc_1 (by decide)
        refine m_iinc (v := x55) (L1 := [some (.ref (G.1 22 0)), some (.int x55)]) C dX12_minds_39 rfl (by rw [ex55]; rfl) (by decide) rfl rfl ?_
        refine m_goto (tgt := 11) C dX12_minds_42 (by decide) ?_
        exact ih11 τ47 x55 i48 g52 (iv_wk b56 (by decide)) (by omega) (by have q := hm11; omega)
  have u57 : IV (gV σ 22 0 9) 0 24 := hI.1 22 0 9
  refine m_aload_n C dX12_minds_0 rfl rfl ?_
  refine g_22_9 C q4_125 dX12_minds_1 ?_
  refine m_eqs (w := (gV σ 22 0 9)) rfl ?_
  refine m_bipush (v := 24) C dX12_minds_4 (by decide) ?_
  refine m_icmp_ne (tgt := 55) C dX12_minds_6 (by decide) (fun c58 => ?_) (fun c58 => ?_)
  · have f59 : (gV σ 22 0 9).toInt ≠ 24 := by
      have q : _ := c58
      simp only [ti_nle, ti_nlt, ti_le, ti_lt, ti_eq, ti_ne, Classical.not_not, kt_24] at q
      omega
    have b60 : IV (gV σ 22 0 9) 0 23 := ⟨by have q1 := u57; have q2 := kc_24; omega, by have q1 := u57; have q2 := kc_24; omega⟩
    exact J55 σ hI Fr.rf (by omega)
  · have f61 : (gV σ 22 0 9).toInt = 24 := by
      have q : _ := c58
      simp only [ti_nle, ti_nlt, ti_le, ti_lt, ti_eq, ti_ne, Classical.not_not, kt_24] at q
      omega
    have b62 : IV (gV σ 22 0 9) 24 24 := ⟨by have q1 := u57; have q2 := kc_24; omega, by have q1 := u57; have q2 := kc_24; omega⟩
    refine m_iconst (v := 1) C dX12_minds_9 (by decide) ?_
    refine m_istore_n (L1 := [some (.ref (G.1 22 0)), some (.int 1)]) C dX12_minds_10 rfl (by decide) rfl rfl ?_
    exact J11 ((24 - (1 : Int32).toInt).toNat + 1) σ 1 hI Fr.rf (iv_wk kc_1 (by decide)) (by omega) (Nat.lt_succ_self _)

abbrev MS_X12_go : List (Nat × Nat) := [(22, 9)]
abbrev AS_X12_go : List Nat := [23]
set_option maxHeartbeats 4000000 in
set_option maxRecDepth 100000 in
theorem c_X12_go (l : Launch) (G : Gt) (σ : Sg) (a1 : Int32) (a2 : Int32) (hI : Inv σ) : Mc l G yX12_go cX12_go 4 (some .int) 2 46 0 0 [.ref (G.1 22 0), .int a1, .int a2] σ (PI fun r τ => Inv τ ∧ Fr MS_X12_go AS_X12_go σ τ ∧ IV r (-2147483648) 2147483647) := by
  refine Mc.of (L0 := [some (.ref (G.1 22 0)), some (.int a1), some (.int a2), none]) (by decide) (Nat.le_of_ble_eq_true rfl) rfl ?_
  intro p e s m args below meth c C hr hlk
  have C : Cx p s m args c cX12_go 4 "LeanTowerModel" := C
  have k0 : (0 : Int32).toInt = 0 := by decide
  have k1 : (1 : Int32).toInt = 1 := by decide
  refine m_aload_n C dX12_go_0 rfl rfl ?_
  refine m_iload_n C dX12_go_1 rfl rfl ?_
  refine m_callV (n := 1) (ci := 11) (st := []) C (c_X12_isOne l G σ (a1) hI ) (by decide) (by decide) rfl rfl rfl q5_50 q5_47 q5_49 q0_36 q1_7 (by decide +kernel) rfl (by decide) (by decide) rfl (Nat.le_of_ble_eq_true rfl) dX12_go_2 ?_
  rintro _ τ1 ⟨x4, rfl, i2, f3, b5, h7⟩
  have g6 : Fr MS_X12_go AS_X12_go σ τ1 := Fr.call (Fr.rf) f3 (by decide)
  show MW p l e _ s m args below meth c _ 4 G 0 0 5 [some (.ref (G.1 22 0)), some (.int a1), some (.int a2), none] [.int x4] τ1
  refine m_if_eq (tgt := 20) C dX12_go_5 (by decide) (fun c8 => ?_) (fun c8 => ?_)
  · have f9 : x4.toInt = 0 := by
      have q : _ := c8
      simp only [ti_nle, ti_nlt, ti_le, ti_lt, ti_eq, ti_ne, Classical.not_not, kt_0] at q
      omega
    have b10 : IV x4 0 0 := ⟨by have q1 := b5; have q2 := kc_0; omega, by have q1 := b5; have q2 := kc_0; omega⟩
    refine m_ldc (v := (-1000001)) C dX12_go_20 q4_192 ?_
    exact m_iret C hr hlk (by decide) (by decide) dX12_go_22 ⟨_, rfl, i2, g6, (iv_wk kc_m1000001 (by decide))⟩
  · have f11 : x4.toInt ≠ 0 := by
      have q : _ := c8
      simp only [ti_nle, ti_nlt, ti_le, ti_lt, ti_eq, ti_ne, Classical.not_not, kt_0] at q
      omega
    have b12 : IV x4 1 1 := ⟨by have q1 := b5; have q2 := kc_0; omega, by have q1 := b5; have q2 := kc_0; omega⟩
    have b13 : IV a1 0 6 := ⟨by have q1 := (iv_any a1); omega, by have q1 := (iv_any a1); omega⟩
    refine m_iload_n C dX12_go_8 rfl rfl ?_
    refine m_i2l C dX12_go_9 ?_
    refine m_ldc2 (v := (-1)) C dX12_go_10 q4_236 ?_
    refine m_lconst (v := 1) C dX12_go_13 (by decide) ?_
    refine m_callS (n := 3) (st := []) C (c_X12_in l G τ1 ((a2 : Int32).toInt64) ((-1)) (1) i2 ) q4_190 q4_188 q4_189 q1_7 (by decide +kernel) rfl (by decide) (by decide) rfl (Nat.le_of_ble_eq_true rfl) dX12_go_14 ?_
    rintro _ τ14 ⟨x17, rfl, i15, f16, b18, h20⟩
    have g19 : Fr MS_X12_go AS_X12_go σ τ14 := Fr.call (g6) f16 (by decide)
    have f21 := tl_i a2
    have f22 := kl_m1
    have f23 := kl_1
    show MW p l e _ s m args below meth c _ 4 G 0 0 17 [some (.ref (G.1 22 0)), some (.int a1), some (.int a2), none] [.int x17] τ14
    refine m_if_ne (tgt := 23) C dX12_go_17 (by decide) (fun c24 => ?_) (fun c24 => ?_)
    · have f25 : x17.toInt ≠ 0 := by
        have q : _ := c24
        simp only [ti_nle, ti_nlt, ti_le, ti_lt, ti_eq, ti_ne, Classical.not_not, kt_0] at q
        omega
      have b26 : IV x17 1 1 := ⟨by have q1 := b18; have q2 := kc_0; omega, by have q1 := b18; have q2 := kc_0; omega⟩
      have b27 : IV a2 (-1) 1 := ⟨by have q1 := (iv_any a2); omega, by have q1 := (iv_any a2); omega⟩
      refine m_aload_n C dX12_go_23 rfl rfl ?_
      refine g_22_0 C q4_116 dX12_go_24 ?_
      refine m_bipush (v := 31) C dX12_go_27 (by decide) ?_
      refine m_iload_n C dX12_go_29 rfl rfl ?_
      refine m_iadd C dX12_go_30 ?_
      refine m_topi (fun x28 ex28 => ?_)
      have tx28 : x28.toInt = 31 + a1.toInt := by rw [ex28, ti_addv kc_31 b13 (by decide), kt_31]
      have b29 : IV x28 31 37 := by rw [ex28]; exact iv_add kc_31 b13 (by decide)
      refine al_23 C b29 (by decide) rfl dX12_go_31 ?_
      refine m_topi (fun x30 ex30 => ?_)
      refine m_istore_n (L1 := [some (.ref (G.1 22 0)), some (.int a1), some (.int a2), some (.int x30)]) C dX12_go_32 rfl (by decide) rfl rfl ?_
      refine m_aload_n C dX12_go_33 rfl rfl ?_
      refine m_callV (n := 0) (ci := 11) (st := []) C (c_X12_minds l G τ14  i15 ) (by decide) (by decide) rfl rfl rfl q5_54 q5_51 q5_53 q0_37 q1_7 (by decide +kernel) rfl (by decide) (by decide) rfl (Nat.le_of_ble_eq_true rfl) dX12_go_34 ?_
      rintro _ τ31 ⟨rfl, i32, f33⟩
      have g36 : Fr MS_X12_go AS_X12_go σ τ31 := Fr.call (g19) f33 (by decide)
      show MW p l e _ s m args below meth c _ 4 G 0 0 37 [some (.ref (G.1 22 0)), some (.int a1), some (.int a2), some (.int x30)] [] τ31
      refine m_aload_n C dX12_go_37 rfl rfl ?_
      refine g_22_0 C q4_116 dX12_go_38 ?_
      refine m_bipush (v := 31) C dX12_go_41 (by decide) ?_
      refine m_iload_n C dX12_go_43 rfl rfl ?_
      refine m_iadd C dX12_go_44 ?_
      refine m_topi (fun x38 ex38 => ?_)
      have tx38 : x38.toInt = 31 + a1.toInt := by rw [ex38, ti_addv kc_31 b13 (by decide), kt_31]
      have b39 : IV x38 31 37 := by rw [ex38]; exact iv_add kc_31 b13 (by decide)
      refine m_iload_n C dX12_go_45 rfl rfl ?_
      refine as_23 C b39 (by decide) rfl dX12_go_46 ?_
      refine m_tops (fun τ40 eτ40 => ?_)
      have i41 : Inv τ40 := eτ40 ▸ Inv.putW i32 (by omega)
      have f42 : Fr MS_X12_go AS_X12_go σ τ40 := eτ40 ▸ Fr.put (g36) (Or.inr (by decide))
      refine m_iload_n C dX12_go_47 rfl rfl ?_
      exact m_iret C hr hlk (by decide) (by decide) dX12_go_48 ⟨_, rfl, i41, f42, (iv_any x30)⟩
    · have f43 : x17.toInt = 0 := by
        have q : _ := c24
        simp only [ti_nle, ti_nlt, ti_le, ti_lt, ti_eq, ti_ne, Classical.not_not, kt_0] at q
        omega
      have b44 : IV x17 0 0 := ⟨by have q1 := b18; have q2 := kc_0; omega, by have q1 := b18; have q2 := kc_0; omega⟩
      refine m_ldc (v := (-1000001)) C dX12_go_20 q4_192 ?_
      exact m_iret C hr hlk (by decide) (by decide) dX12_go_22 ⟨_, rfl, i15, g19, (iv_wk kc_m1000001 (by decide))⟩

abbrev MS_X12_hang : List (Nat × Nat) := [(22, 9)]
abbrev AS_X12_hang : List Nat := [23]
set_option maxHeartbeats 4000000 in
set_option maxRecDepth 100000 in
theorem c_X12_hang (l : Launch) (G : Gt) (σ : Sg) (a1 : Int32) (a2 : Int32) (hI : Inv σ) : Mc l G yX12_hang cX12_hang 4 (some .int) 2 44 0 0 [.ref (G.1 22 0), .int a1, .int a2] σ (PI fun r τ => Inv τ ∧ Fr MS_X12_hang AS_X12_hang σ τ ∧ IV r (-2147483648) 2147483647) := by
  refine Mc.of (L0 := [some (.ref (G.1 22 0)), some (.int a1), some (.int a2), none]) (by decide) (Nat.le_of_ble_eq_true rfl) rfl ?_
  intro p e s m args below meth c C hr hlk
  have C : Cx p s m args c cX12_hang 4 "LeanTowerModel" := C
  have k0 : (0 : Int32).toInt = 0 := by decide
  have k1 : (1 : Int32).toInt = 1 := by decide
  refine m_iload_n C dX12_hang_0 rfl rfl ?_
  refine m_i2l C dX12_hang_1 ?_
  refine m_lconst (v := 0) C dX12_hang_2 (by decide) ?_
  refine m_aload_n C dX12_hang_3 rfl rfl ?_
  refine g_22_0 C q4_116 dX12_hang_4 ?_
  refine m_bipush (v := 38) C dX12_hang_7 (by decide) ?_
  refine al_23 C kc_38 (by decide) kn_38 dX12_hang_9 ?_
  refine m_topi (fun x1 ex1 => ?_)
  have b2 : IV x1 0 4 := by rw [ex1]; exact hI.1 23 0 38
  refine m_iconst (v := 1) C dX12_hang_10 (by decide) ?_
  refine m_isub C dX12_hang_11 ?_
  refine m_topi (fun x3 ex3 => ?_)
  have tx3 : x3.toInt = x1.toInt - 1 := by rw [ex3, ti_subv b2 kc_1 (by decide), kt_1]
  have b4 : IV x3 (-1) 3 := by rw [ex3]; exact iv_sub b2 kc_1 (by decide)
  refine m_i2l C dX12_hang_12 ?_
  refine m_callS (n := 3) (st := []) C (c_X12_in l G σ ((a1 : Int32).toInt64) (0) ((x3 : Int32).toInt64) hI ) q4_190 q4_188 q4_189 q1_7 (by decide +kernel) rfl (by decide) (by decide) rfl (Nat.le_of_ble_eq_true rfl) dX12_hang_13 ?_
  rintro _ τ5 ⟨x8, rfl, i6, f7, b9, h11⟩
  have g10 : Fr MS_X12_hang AS_X12_hang σ τ5 := Fr.call (Fr.rf) f7 (by decide)
  have f12 := tl_i a1
  have f13 := kl_0
  have f14 := tl_i x3
  have q15 := b4
  show MW p l e _ s m args below meth c _ 4 G 0 0 16 [some (.ref (G.1 22 0)), some (.int a1), some (.int a2), none] [.int x8] τ5
  refine m_if_eq (tgt := 31) C dX12_hang_16 (by decide) (fun c16 => ?_) (fun c16 => ?_)
  · have f17 : x8.toInt = 0 := by
      have q : _ := c16
      simp only [ti_nle, ti_nlt, ti_le, ti_lt, ti_eq, ti_ne, Classical.not_not, kt_0] at q
      omega
    have b18 : IV x8 0 0 := ⟨by have q1 := b9; have q2 := kc_0; omega, by have q1 := b9; have q2 := kc_0; omega⟩
    refine m_ldc (v := (-1000001)) C dX12_hang_31 q4_192 ?_
    exact m_iret C hr hlk (by decide) (by decide) dX12_hang_33 ⟨_, rfl, i6, g10, (iv_wk kc_m1000001 (by decide))⟩
  · have f19 : x8.toInt ≠ 0 := by
      have q : _ := c16
      simp only [ti_nle, ti_nlt, ti_le, ti_lt, ti_eq, ti_ne, Classical.not_not, kt_0] at q
      omega
    have b20 : IV x8 1 1 := ⟨by have q1 := b9; have q2 := kc_0; omega, by have q1 := b9; have q2 := kc_0; omega⟩
    have b21 : IV a1 0 3 := ⟨by have q1 := (iv_any a1); omega, by have q1 := (iv_any a1); omega⟩
    refine m_iload_n C dX12_hang_19 rfl rfl ?_
    refine m_i2l C dX12_hang_20 ?_
    refine m_lconst (v := 0) C dX12_hang_21 (by decide) ?_
    refine m_ldc2 (v := 3) C dX12_hang_22 q5_59 ?_
    refine m_callS (n := 3) (st := []) C (c_X12_in l G τ5 ((a2 : Int32).toInt64) (0) (3) i6 ) q4_190 q4_188 q4_189 q1_7 (by decide +kernel) rfl (by decide) (by decide) rfl (Nat.le_of_ble_eq_true rfl) dX12_hang_25 ?_
    rintro _ τ22 ⟨x25, rfl, i23, f24, b26, h28⟩
    have g27 : Fr MS_X12_hang AS_X12_hang σ τ22 := Fr.call (g10) f24 (by decide)
    have f29 := tl_i a2
    have f30 := kl_0
    have f31 := kl_3
    show MW p l e _ s m args below meth c _ 4 G 0 0 28 [some (.ref (G.1 22 0)), some (.int a1), some (.int a2), none] [.int x25] τ22
    refine m_if_ne (tgt := 34) C dX12_hang_28 (by decide) (fun c32 => ?_) (fun c32 => ?_)
    · have f33 : x25.toInt ≠ 0 := by
        have q : _ := c32
        simp only [ti_nle, ti_nlt, ti_le, ti_lt, ti_eq, ti_ne, Classical.not_not, kt_0] at q
        omega
      have b34 : IV x25 1 1 := ⟨by have q1 := b26; have q2 := kc_0; omega, by have q1 := b26; have q2 := kc_0; omega⟩
      have b35 : IV a2 0 3 := ⟨by have q1 := (iv_any a2); omega, by have q1 := (iv_any a2); omega⟩
      refine m_aload_n C dX12_hang_34 rfl rfl ?_
      refine g_22_0 C q4_116 dX12_hang_35 ?_
      refine m_bipush (v := 43) C dX12_hang_38 (by decide) ?_
      refine m_iload_n C dX12_hang_40 rfl rfl ?_
      refine m_iadd C dX12_hang_41 ?_
      refine m_topi (fun x36 ex36 => ?_)
      have tx36 : x36.toInt = 43 + a1.toInt := by rw [ex36, ti_addv kc_43 b21 (by decide), kt_43]
      have b37 : IV x36 43 46 := by rw [ex36]; exact iv_add kc_43 b21 (by decide)
      refine al_23 C b37 (by decide) rfl dX12_hang_42 ?_
      refine m_topi (fun x38 ex38 => ?_)
      refine m_istore_n (L1 := [some (.ref (G.1 22 0)), some (.int a1), some (.int a2), some (.int x38)]) C dX12_hang_43 rfl (by decide) rfl rfl ?_
      refine m_aload_n C dX12_hang_44 rfl rfl ?_
      refine m_callV (n := 0) (ci := 11) (st := []) C (c_X12_minds l G τ22  i23 ) (by decide) (by decide) rfl rfl rfl q5_54 q5_51 q5_53 q0_37 q1_7 (by decide +kernel) rfl (by decide) (by decide) rfl (Nat.le_of_ble_eq_true rfl) dX12_hang_45 ?_
      rintro _ τ39 ⟨rfl, i40, f41⟩
      have g44 : Fr MS_X12_hang AS_X12_hang σ τ39 := Fr.call (g27) f41 (by decide)
      show MW p l e _ s m args below meth c _ 4 G 0 0 48 [some (.ref (G.1 22 0)), some (.int a1), some (.int a2), some (.int x38)] [] τ39
      refine m_aload_n C dX12_hang_48 rfl rfl ?_
      refine g_22_0 C q4_116 dX12_hang_49 ?_
      refine m_bipush (v := 43) C dX12_hang_52 (by decide) ?_
      refine m_iload_n C dX12_hang_54 rfl rfl ?_
      refine m_iadd C dX12_hang_55 ?_
      refine m_topi (fun x46 ex46 => ?_)
      have tx46 : x46.toInt = 43 + a1.toInt := by rw [ex46, ti_addv kc_43 b21 (by decide), kt_43]
      have b47 : IV x46 43 46 := by rw [ex46]; exact iv_add kc_43 b21 (by decide)
      refine m_iload_n C dX12_hang_56 rfl rfl ?_
      refine as_23 C b47 (by decide) rfl dX12_hang_57 ?_
      refine m_tops (fun τ48 eτ48 => ?_)
      have i49 : Inv τ48 := eτ48 ▸ Inv.putW i40 (by omega)
      have f50 : Fr MS_X12_hang AS_X12_hang σ τ48 := eτ48 ▸ Fr.put (g44) (Or.inr (by decide))
      refine m_iload_n C dX12_hang_58 rfl rfl ?_
      exact m_iret C hr hlk (by decide) (by decide) dX12_hang_59 ⟨_, rfl, i49, f50, (iv_any x38)⟩
    · have f51 : x25.toInt = 0 := by
        have q : _ := c32
        simp only [ti_nle, ti_nlt, ti_le, ti_lt, ti_eq, ti_ne, Classical.not_not, kt_0] at q
        omega
      have b52 : IV x25 0 0 := ⟨by have q1 := b26; have q2 := kc_0; omega, by have q1 := b26; have q2 := kc_0; omega⟩
      refine m_ldc (v := (-1000001)) C dX12_hang_31 q4_192 ?_
      exact m_iret C hr hlk (by decide) (by decide) dX12_hang_33 ⟨_, rfl, i23, g27, (iv_wk kc_m1000001 (by decide))⟩

abbrev MS_X12_halves : List (Nat × Nat) := [(22, 9)]
abbrev AS_X12_halves : List Nat := [23]
set_option maxHeartbeats 4000000 in
set_option maxRecDepth 100000 in
theorem c_X12_halves (l : Launch) (G : Gt) (σ : Sg) (a1 : Int32) (hI : Inv σ) : Mc l G yX12_halves cX12_halves 4 (some .int) 3 67 0 0 [.ref (G.1 22 0), .int a1] σ (PI fun r τ => Inv τ ∧ Fr MS_X12_halves AS_X12_halves σ τ ∧ IV r (-1000003) 64) := by
  refine Mc.of (L0 := [some (.ref (G.1 22 0)), some (.int a1), none, none]) (by decide) (Nat.le_of_ble_eq_true rfl) rfl ?_
  intro p e s m args below meth c C hr hlk
  have C : Cx p s m args c cX12_halves 4 "LeanTowerModel" := C
  have k0 : (0 : Int32).toInt = 0 := by decide
  have k1 : (1 : Int32).toInt = 1 := by decide
  have J52 : ∀ (n : Nat) (τ : Sg) (y2 : Int32) (y3 : Int32), Inv τ → Fr MS_X12_halves AS_X12_halves σ τ → IV a1 1 64 → IV y2 (-1000000) 64 → IV y3 1 65 → (65 - y3.toInt).toNat < n → MW p l e { frames := 3, cells := 0, slots := 0, locals := 67 } s m args below meth c (MQ below (QP G (PI fun r τ => Inv τ ∧ Fr MS_X12_halves AS_X12_halves σ τ ∧ IV r (-1000003) 64)) args s 0 0 (aG G)) 4 G 0 0 52 [some (.ref (G.1 22 0)), some (.int a1), some (.int y2), some (.int y3)] [] τ := by
    intro n
    induction n with
    | zero => intro τ y2 y3 iτ fτ b_a1 b_y2 b_y3 hm; exact absurd hm (Nat.not_lt_zero _)
    | succ n ih52 =>
      intro τ y2 y3 iτ fτ b_a1 b_y2 b_y3 hm52
      refine m_iload_n C dX12_halves_52 rfl rfl ?_
      refine m_iload_n C dX12_halves_53 rfl rfl ?_
      refine m_icmp_gt (tgt := 94) C dX12_halves_54 (by decide) (fun c1 => ?_) (fun c1 => ?_)
      · have f2 : a1.toInt < y3.toInt := by
          have q : _ := c1
          simp only [ti_nle, ti_nlt, ti_le, ti_lt, ti_eq, ti_ne, Classical.not_not] at q
          omega
        have b3 : IV y3 2 65 := ⟨by have q1 := b_a1; have q2 := b_y3; omega, by have q1 := b_a1; have q2 := b_y3; omega⟩
        refine m_iload_n C dX12_halves_94 rfl rfl ?_
        exact m_iret C hr hlk (by decide) (by decide) dX12_halves_95 ⟨_, rfl, iτ, fτ, (iv_wk b_y2 (by decide))⟩
      · have f4 : y3.toInt ≤ a1.toInt := by
          have q : _ := c1
          simp only [ti_nle, ti_nlt, ti_le, ti_lt, ti_eq, ti_ne, Classical.not_not] at q
          omega
        have b5 : IV y3 1 64 := ⟨by have q1 := b_y3; have q2 := b_a1; omega, by have q1 := b_y3; have q2 := b_a1; omega⟩
        refine m_aload_n C dX12_halves_57 rfl rfl ?_
        refine m_iconst (v := 0) C dX12_halves_58 (by decide) ?_
        have q6 := kt_0
        refine m_callV (n := 1) (ci := 11) (st := []) C (c_X12_half l G τ (0) iτ (iv_wk kc_0 (by decide)) (by omega)) (by decide) (by decide) rfl rfl rfl q5_74 q5_71 q5_73 q0_39 q1_7 (by decide +kernel) rfl (by decide) (by decide) rfl (Nat.le_of_ble_eq_true rfl) dX12_halves_59 ?_
        rintro _ τ7 ⟨rfl, i8, f9⟩
        have g12 : Fr MS_X12_halves AS_X12_halves σ τ7 := Fr.call (fτ) f9 (by decide)
        show MW p l e _ s m args below meth c _ 4 G 0 0 62 [some (.ref (G.1 22 0)), some (.int a1), some (.int y2), some (.int y3)] [] τ7
        refine m_iload_n C dX12_halves_62 rfl rfl ?_
        refine m_ldc (v := (-1000000)) C dX12_halves_63 q5_70 ?_
        refine m_icmp_ne (tgt := 86) C dX12_halves_65 (by decide) (fun c14 => ?_) (fun c14 => ?_)
        · have f15 : y2.toInt ≠ -1000000 := by
            have q : _ := c14
            simp only [ti_nle, ti_nlt, ti_le, ti_lt, ti_eq, ti_ne, Classical.not_not, kt_m1000000] at q
            omega
          have b16 : IV y2 (-999999) 64 := ⟨by have q1 := b_y2; have q2 := kc_m1000000; omega, by have q1 := b_y2; have q2 := kc_m1000000; omega⟩
          refine m_iload_n C dX12_halves_86 rfl rfl ?_
          refine m_istore_n (L1 := [some (.ref (G.1 22 0)), some (.int a1), some (.int y2), some (.int y3)]) C dX12_halves_87 rfl (by decide) rfl rfl ?_
          obtain ⟨x17, ex17⟩ : ∃ y : Int32, y = y3 + 1 := ⟨_, rfl⟩
          have tx17 : x17.toInt = y3.toInt + 1 := by rw [ex17, ti_addv b5 kc_1 (by decide), kt_1]
          have b18 : IV x17 2 65 := by rw [ex17]; exact iv_add b5 kc_1 (by decide)
          refine m_iinc (v := x17) (L1 := [some (.ref (G.1 22 0)), some (.int a1), some (.int y2), some (.int x17)]) C dX12_halves_88 rfl (by rw [ex17]; rfl) (by decide) rfl rfl ?_
          refine m_goto (tgt := 52) C dX12_halves_91 (by decide) ?_
          exact ih52 τ7 y2 x17 i8 g12 b_a1 (iv_wk b16 (by decide)) (iv_wk b18 (by decide)) (by have q := hm52; omega)
        · have f19 : y2.toInt = -1000000 := by
            have q : _ := c14
            simp only [ti_nle, ti_nlt, ti_le, ti_lt, ti_eq, ti_ne, Classical.not_not, kt_m1000000] at q
            omega
          have b20 : IV y2 (-1000000) (-1000000) := ⟨by have q1 := b_y2; have q2 := kc_m1000000; omega, by have q1 := b_y2; have q2 := kc_m1000000; omega⟩
          refine m_aload_n C dX12_halves_68 rfl rfl ?_
          refine m_iconst (v := 0) C dX12_halves_69 (by decide) ?_
          have q21 := kt_0
          refine m_callV (n := 1) (ci := 11) (st := []) C (c_X12_worstOf l G τ7 (0) i8 (iv_wk kc_0 (by decide)) (by omega)) (by decide) (by decide) rfl rfl rfl q5_78 q5_75 q5_77 q0_40 q1_7 (by decide +kernel) rfl (by decide) (by decide) rfl (Nat.le_of_ble_eq_true rfl) dX12_halves_70 ?_
          rintro _ τ22 ⟨x25, rfl, i23, f24, b26⟩
          have g27 : Fr MS_X12_halves AS_X12_halves σ τ22 := Fr.call (g12) f24 (by decide)
          show MW p l e _ s m args below meth c _ 4 G 0 0 73 [some (.ref (G.1 22 0)), some (.int a1), some (.int y2), some (.int y3)] [.int x25] τ22
          refine m_aload_n C dX12_halves_73 rfl rfl ?_
          refine g_22_0 C q4_116 dX12_halves_74 ?_
          refine m_iconst (v := 1) C dX12_halves_77 (by decide) ?_
          refine al_23 C kc_1 (by decide) kn_1 dX12_halves_78 ?_
          refine m_topi (fun x29 ex29 => ?_)
          refine m_icmp_le (tgt := 86) C dX12_halves_79 (by decide) (fun c30 => ?_) (fun c30 => ?_)
          · have f31 : x25.toInt ≤ x29.toInt := by
              have q : _ := c30
              simp only [ti_nle, ti_nlt, ti_le, ti_lt, ti_eq, ti_ne, Classical.not_not] at q
              omega
            refine m_iload_n C dX12_halves_86 rfl rfl ?_
            refine m_istore_n (L1 := [some (.ref (G.1 22 0)), some (.int a1), some (.int y2), some (.int y3)]) C dX12_halves_87 rfl (by decide) rfl rfl ?_
            obtain ⟨x32, ex32⟩ : ∃ y : Int32, y = y3 + 1 := ⟨_, rfl⟩
            have tx32 : x32.toInt = y3.toInt + 1 := by rw [ex32, ti_addv b5 kc_1 (by decide), kt_1]
            have b33 : IV x32 2 65 := by rw [ex32]; exact iv_add b5 kc_1 (by decide)
            refine m_iinc (v := x32) (L1 := [some (.ref (G.1 22 0)), some (.int a1), some (.int y2), some (.int x32)]) C dX12_halves_88 rfl (by rw [ex32]; rfl) (by decide) rfl rfl ?_
            refine m_goto (tgt := 52) C dX12_halves_91 (by decide) ?_
            exact ih52 τ22 y2 x32 i23 g27 b_a1 (iv_wk b20 (by decide)) (iv_wk b33 (by decide)) (by have q := hm52; omega)
          · have f34 : x29.toInt < x25.toInt := by
              have q : _ := c30
              simp only [ti_nle, ti_nlt, ti_le, ti_lt, ti_eq, ti_ne, Classical.not_not] at q
              omega
            have b35 : IV x29 (-2147483648) 2147483646 := ⟨by have q1 := (iv_any x29); have q2 := b26; omega, by have q1 := (iv_any x29); have q2 := b26; omega⟩
            have b36 : IV x25 (-2147483647) 2147483647 := ⟨by have q1 := (iv_any x29); have q2 := b26; omega, by have q1 := (iv_any x29); have q2 := b26; omega⟩
            refine m_iload_n C dX12_halves_82 rfl rfl ?_
            refine m_goto (tgt := 87) C dX12_halves_83 (by decide) ?_
            refine m_istore_n (L1 := [some (.ref (G.1 22 0)), some (.int a1), some (.int y3), some (.int y3)]) C dX12_halves_87 rfl (by decide) rfl rfl ?_
            obtain ⟨x37, ex37⟩ : ∃ y : Int32, y = y3 + 1 := ⟨_, rfl⟩
            have tx37 : x37.toInt = y3.toInt + 1 := by rw [ex37, ti_addv b5 kc_1 (by decide), kt_1]
            have b38 : IV x37 2 65 := by rw [ex37]; exact iv_add b5 kc_1 (by decide)
            refine m_iinc (v := x37) (L1 := [some (.ref (G.1 22 0)), some (.int a1), some (.int y3), some (.int x37)]) C dX12_halves_88 rfl (by rw [ex37]; rfl) (by decide) rfl rfl ?_
            refine m_goto (tgt := 52) C dX12_halves_91 (by decide) ?_
            exact ih52 τ22 y3 x37 i23 g27 b_a1 (iv_wk b5 (by decide)) (iv_wk b38 (by decide)) (by have q := hm52; omega)
  refine m_aload_n C dX12_halves_0 rfl rfl ?_
  refine m_callV (n := 0) (ci := 11) (st := []) C (c_X12_isTower l G σ  hI ) (by decide) (by decide) rfl rfl rfl q5_67 q5_64 q5_66 q0_38 q1_7 (by decide +kernel) rfl (by decide) (by decide) rfl (Nat.le_of_ble_eq_true rfl) dX12_halves_1 ?_
  rintro _ τ39 ⟨x42, rfl, i40, f41, b43⟩
  have g44 : Fr MS_X12_halves AS_X12_halves σ τ39 := Fr.call (Fr.rf) f41 (by decide)
  show MW p l e _ s m args below meth c _ 4 G 0 0 4 [some (.ref (G.1 22 0)), some (.int a1), none, none] [.int x42] τ39
  refine m_if_ne (tgt := 10) C dX12_halves_4 (by decide) (fun c46 => ?_) (fun c46 => ?_)
  · have f47 : x42.toInt ≠ 0 := by
      have q : _ := c46
      simp only [ti_nle, ti_nlt, ti_le, ti_lt, ti_eq, ti_ne, Classical.not_not, kt_0] at q
      omega
    have b48 : IV x42 1 1 := ⟨by have q1 := b43; have q2 := kc_0; omega, by have q1 := b43; have q2 := kc_0; omega⟩
    refine m_iload_n C dX12_halves_10 rfl rfl ?_
    refine m_i2l C dX12_halves_11 ?_
    refine m_lconst (v := 1) C dX12_halves_12 (by decide) ?_
    refine m_ldc2 (v := 64) C dX12_halves_13 q5_69 ?_
    refine m_callS (n := 3) (st := []) C (c_X12_in l G τ39 ((a1 : Int32).toInt64) (1) (64) i40 ) q4_190 q4_188 q4_189 q1_7 (by decide +kernel) rfl (by decide) (by decide) rfl (Nat.le_of_ble_eq_true rfl) dX12_halves_16 ?_
    rintro _ τ49 ⟨x52, rfl, i50, f51, b53, h55⟩
    have g54 : Fr MS_X12_halves AS_X12_halves σ τ49 := Fr.call (g44) f51 (by decide)
    have f56 := tl_i a1
    have f57 := kl_1
    have f58 := kl_64
    show MW p l e _ s m args below meth c _ 4 G 0 0 19 [some (.ref (G.1 22 0)), some (.int a1), none, none] [.int x52] τ49
    refine m_if_ne (tgt := 25) C dX12_halves_19 (by decide) (fun c59 => ?_) (fun c59 => ?_)
    · have f60 : x52.toInt ≠ 0 := by
        have q : _ := c59
        simp only [ti_nle, ti_nlt, ti_le, ti_lt, ti_eq, ti_ne, Classical.not_not, kt_0] at q
        omega
      have b61 : IV x52 1 1 := ⟨by have q1 := b53; have q2 := kc_0; omega, by have q1 := b53; have q2 := kc_0; omega⟩
      have b62 : IV a1 1 64 := ⟨by have q1 := (iv_any a1); omega, by have q1 := (iv_any a1); omega⟩
      refine m_aload_n C dX12_halves_25 rfl rfl ?_
      refine g_22_0 C q4_116 dX12_halves_26 ?_
      refine m_bipush (v := 47) C dX12_halves_29 (by decide) ?_
      refine al_23 C kc_47 (by decide) kn_47 dX12_halves_31 ?_
      refine m_topi (fun x63 ex63 => ?_)
      refine m_iload_n C dX12_halves_32 rfl rfl ?_
      refine m_iadd C dX12_halves_33 ?_
      refine m_topi (fun x64 ex64 => ?_)
      refine m_sipush (v := 9999) C dX12_halves_34 (by decide) ?_
      refine m_icmp_le (tgt := 43) C dX12_halves_37 (by decide) (fun c65 => ?_) (fun c65 => ?_)
      · have f66 : x64.toInt ≤ 9999 := by
          have q : _ := c65
          simp only [ti_nle, ti_nlt, ti_le, ti_lt, ti_eq, ti_ne, Classical.not_not, kt_9999] at q
          omega
        have b67 : IV x64 (-2147483648) 9999 := ⟨by have q1 := (iv_any x64); have q2 := kc_9999; omega, by have q1 := (iv_any x64); have q2 := kc_9999; omega⟩
        refine m_aload_n C dX12_halves_43 rfl rfl ?_
        refine m_callV (n := 0) (ci := 11) (st := []) C (c_X12_minds l G τ49  i50 ) (by decide) (by decide) rfl rfl rfl q5_54 q5_51 q5_53 q0_37 q1_7 (by decide +kernel) rfl (by decide) (by decide) rfl (Nat.le_of_ble_eq_true rfl) dX12_halves_44 ?_
        rintro _ τ68 ⟨rfl, i69, f70⟩
        have g73 : Fr MS_X12_halves AS_X12_halves σ τ68 := Fr.call (g54) f70 (by decide)
        show MW p l e _ s m args below meth c _ 4 G 0 0 47 [some (.ref (G.1 22 0)), some (.int a1), none, none] [] τ68
        refine m_ldc (v := (-1000000)) C dX12_halves_47 q5_70 ?_
        refine m_istore_n (L1 := [some (.ref (G.1 22 0)), some (.int a1), some (.int (-1000000)), none]) C dX12_halves_49 rfl (by decide) rfl rfl ?_
        refine m_iconst (v := 1) C dX12_halves_50 (by decide) ?_
        refine m_istore_n (L1 := [some (.ref (G.1 22 0)), some (.int a1), some (.int (-1000000)), some (.int 1)]) C dX12_halves_51 rfl (by decide) rfl rfl ?_
        exact J52 ((65 - (1 : Int32).toInt).toNat + 1) τ68 (-1000000) 1 i69 g73 b62 (iv_wk kc_m1000000 (by decide)) (iv_wk kc_1 (by decide)) (Nat.lt_succ_self _)
      · have f75 : 9999 < x64.toInt := by
          have q : _ := c65
          simp only [ti_nle, ti_nlt, ti_le, ti_lt, ti_eq, ti_ne, Classical.not_not, kt_9999] at q
          omega
        have b76 : IV x64 10000 2147483647 := ⟨by have q1 := kc_9999; have q2 := (iv_any x64); omega, by have q1 := kc_9999; have q2 := (iv_any x64); omega⟩
        refine m_ldc (v := (-1000003)) C dX12_halves_40 q4_222 ?_
        exact m_iret C hr hlk (by decide) (by decide) dX12_halves_42 ⟨_, rfl, i50, g54, (iv_wk kc_m1000003 (by decide))⟩
    · have f77 : x52.toInt = 0 := by
        have q : _ := c59
        simp only [ti_nle, ti_nlt, ti_le, ti_lt, ti_eq, ti_ne, Classical.not_not, kt_0] at q
        omega
      have b78 : IV x52 0 0 := ⟨by have q1 := b53; have q2 := kc_0; omega, by have q1 := b53; have q2 := kc_0; omega⟩
      refine m_ldc (v := (-1000001)) C dX12_halves_22 q4_192 ?_
      exact m_iret C hr hlk (by decide) (by decide) dX12_halves_24 ⟨_, rfl, i50, g54, (iv_wk kc_m1000001 (by decide))⟩
  · have f79 : x42.toInt = 0 := by
      have q : _ := c46
      simp only [ti_nle, ti_nlt, ti_le, ti_lt, ti_eq, ti_ne, Classical.not_not, kt_0] at q
      omega
    have b80 : IV x42 0 0 := ⟨by have q1 := b43; have q2 := kc_0; omega, by have q1 := b43; have q2 := kc_0; omega⟩
    refine m_ldc (v := (-1000002)) C dX12_halves_7 q5_68 ?_
    exact m_iret C hr hlk (by decide) (by decide) dX12_halves_9 ⟨_, rfl, i40, g44, (iv_wk kc_m1000002 (by decide))⟩

abbrev MS_X12_year : List (Nat × Nat) := [(22, 9)]
abbrev AS_X12_year : List Nat := [23]
set_option maxHeartbeats 4000000 in
set_option maxRecDepth 100000 in
theorem c_X12_year (l : Launch) (G : Gt) (σ : Sg) (hI : Inv σ) : Mc l G yX12_year cX12_year 1 (some .int) 3 69 0 0 [.ref (G.1 22 0)] σ (PI fun r τ => Inv τ ∧ Fr MS_X12_year AS_X12_year σ τ ∧ IV r (-1000003) 1) := by
  refine Mc.of (L0 := [some (.ref (G.1 22 0))]) (by decide) (Nat.le_of_ble_eq_true rfl) rfl ?_
  intro p e s m args below meth c C hr hlk
  have C : Cx p s m args c cX12_year 1 "LeanTowerModel" := C
  have k0 : (0 : Int32).toInt = 0 := by decide
  have k1 : (1 : Int32).toInt = 1 := by decide
  refine m_aload_n C dX12_year_0 rfl rfl ?_
  refine m_callV (n := 0) (ci := 11) (st := []) C (c_X12_isTower l G σ  hI ) (by decide) (by decide) rfl rfl rfl q5_67 q5_64 q5_66 q0_38 q1_7 (by decide +kernel) rfl (by decide) (by decide) rfl (Nat.le_of_ble_eq_true rfl) dX12_year_1 ?_
  rintro _ τ1 ⟨x4, rfl, i2, f3, b5⟩
  have g6 : Fr MS_X12_year AS_X12_year σ τ1 := Fr.call (Fr.rf) f3 (by decide)
  show MW p l e _ s m args below meth c _ 1 G 0 0 4 [some (.ref (G.1 22 0))] [.int x4] τ1
  refine m_if_ne (tgt := 10) C dX12_year_4 (by decide) (fun c8 => ?_) (fun c8 => ?_)
  · have f9 : x4.toInt ≠ 0 := by
      have q : _ := c8
      simp only [ti_nle, ti_nlt, ti_le, ti_lt, ti_eq, ti_ne, Classical.not_not, kt_0] at q
      omega
    have b10 : IV x4 1 1 := ⟨by have q1 := b5; have q2 := kc_0; omega, by have q1 := b5; have q2 := kc_0; omega⟩
    refine m_aload_n C dX12_year_10 rfl rfl ?_
    refine g_22_0 C q4_116 dX12_year_11 ?_
    refine m_bipush (v := 48) C dX12_year_14 (by decide) ?_
    refine al_23 C kc_48 (by decide) kn_48 dX12_year_16 ?_
    refine m_topi (fun x11 ex11 => ?_)
    refine m_callS (n := 1) (st := []) C (c_X12_sizeOf l G τ1 (x11) i2 ) q5_96 q5_94 q5_95 q1_7 (by decide +kernel) rfl (by decide) (by decide) rfl (Nat.le_of_ble_eq_true rfl) dX12_year_17 ?_
    rintro _ τ12 ⟨x15, rfl, i13, f14, b16⟩
    have g17 : Fr MS_X12_year AS_X12_year σ τ12 := Fr.call (g6) f14 (by decide)
    show MW p l e _ s m args below meth c _ 1 G 0 0 20 [some (.ref (G.1 22 0))] [.int x15] τ12
    refine m_sipush (v := 9999) C dX12_year_20 (by decide) ?_
    refine m_icmp_gt (tgt := 42) C dX12_year_23 (by decide) (fun c19 => ?_) (fun c19 => ?_)
    · have f20 : 9999 < x15.toInt := by
        have q : _ := c19
        simp only [ti_nle, ti_nlt, ti_le, ti_lt, ti_eq, ti_ne, Classical.not_not, kt_9999] at q
        omega
      have b21 : IV x15 10000 2147483647 := ⟨by have q1 := kc_9999; have q2 := b16; omega, by have q1 := kc_9999; have q2 := b16; omega⟩
      refine m_ldc (v := (-1000003)) C dX12_year_42 q4_222 ?_
      exact m_iret C hr hlk (by decide) (by decide) dX12_year_44 ⟨_, rfl, i13, g17, (iv_wk kc_m1000003 (by decide))⟩
    · have f22 : x15.toInt ≤ 9999 := by
        have q : _ := c19
        simp only [ti_nle, ti_nlt, ti_le, ti_lt, ti_eq, ti_ne, Classical.not_not, kt_9999] at q
        omega
      have b23 : IV x15 (-2147483648) 9999 := ⟨by have q1 := b16; have q2 := kc_9999; omega, by have q1 := b16; have q2 := kc_9999; omega⟩
      refine m_aload_n C dX12_year_26 rfl rfl ?_
      refine g_22_0 C q4_116 dX12_year_27 ?_
      refine m_bipush (v := 49) C dX12_year_30 (by decide) ?_
      refine al_23 C kc_49 (by decide) kn_49 dX12_year_32 ?_
      refine m_topi (fun x24 ex24 => ?_)
      refine m_callS (n := 1) (st := []) C (c_X12_sizeOf l G τ12 (x24) i13 ) q5_96 q5_94 q5_95 q1_7 (by decide +kernel) rfl (by decide) (by decide) rfl (Nat.le_of_ble_eq_true rfl) dX12_year_33 ?_
      rintro _ τ25 ⟨x28, rfl, i26, f27, b29⟩
      have g30 : Fr MS_X12_year AS_X12_year σ τ25 := Fr.call (g17) f27 (by decide)
      show MW p l e _ s m args below meth c _ 1 G 0 0 36 [some (.ref (G.1 22 0))] [.int x28] τ25
      refine m_sipush (v := 9999) C dX12_year_36 (by decide) ?_
      refine m_icmp_le (tgt := 45) C dX12_year_39 (by decide) (fun c32 => ?_) (fun c32 => ?_)
      · have f33 : x28.toInt ≤ 9999 := by
          have q : _ := c32
          simp only [ti_nle, ti_nlt, ti_le, ti_lt, ti_eq, ti_ne, Classical.not_not, kt_9999] at q
          omega
        have b34 : IV x28 (-2147483648) 9999 := ⟨by have q1 := b29; have q2 := kc_9999; omega, by have q1 := b29; have q2 := kc_9999; omega⟩
        refine m_aload_n C dX12_year_45 rfl rfl ?_
        refine m_callV (n := 0) (ci := 11) (st := []) C (c_X12_minds l G τ25  i26 ) (by decide) (by decide) rfl rfl rfl q5_54 q5_51 q5_53 q0_37 q1_7 (by decide +kernel) rfl (by decide) (by decide) rfl (Nat.le_of_ble_eq_true rfl) dX12_year_46 ?_
        rintro _ τ35 ⟨rfl, i36, f37⟩
        have g40 : Fr MS_X12_year AS_X12_year σ τ35 := Fr.call (g30) f37 (by decide)
        show MW p l e _ s m args below meth c _ 1 G 0 0 49 [some (.ref (G.1 22 0))] [] τ35
        refine m_aload_n C dX12_year_49 rfl rfl ?_
        refine m_iconst (v := 0) C dX12_year_50 (by decide) ?_
        have q42 := kt_0
        refine m_callV (n := 1) (ci := 11) (st := []) C (c_X12_creep l G τ35 (0) i36 (iv_wk kc_0 (by decide)) (by omega)) (by decide) (by decide) rfl rfl rfl q5_107 q5_104 q5_106 q0_44 q1_7 (by decide +kernel) rfl (by decide) (by decide) rfl (Nat.le_of_ble_eq_true rfl) dX12_year_51 ?_
        rintro _ τ43 ⟨rfl, i44, f45⟩
        have g48 : Fr MS_X12_year AS_X12_year σ τ43 := Fr.call (g40) f45 (by decide)
        show MW p l e _ s m args below meth c _ 1 G 0 0 54 [some (.ref (G.1 22 0))] [] τ43
        refine m_iconst (v := 1) C dX12_year_54 (by decide) ?_
        exact m_iret C hr hlk (by decide) (by decide) dX12_year_55 ⟨_, rfl, i44, g48, (iv_wk kc_1 (by decide))⟩
      · have f50 : 9999 < x28.toInt := by
          have q : _ := c32
          simp only [ti_nle, ti_nlt, ti_le, ti_lt, ti_eq, ti_ne, Classical.not_not, kt_9999] at q
          omega
        have b51 : IV x28 10000 2147483647 := ⟨by have q1 := kc_9999; have q2 := b29; omega, by have q1 := kc_9999; have q2 := b29; omega⟩
        refine m_ldc (v := (-1000003)) C dX12_year_42 q4_222 ?_
        exact m_iret C hr hlk (by decide) (by decide) dX12_year_44 ⟨_, rfl, i26, g30, (iv_wk kc_m1000003 (by decide))⟩
  · have f52 : x4.toInt = 0 := by
      have q : _ := c8
      simp only [ti_nle, ti_nlt, ti_le, ti_lt, ti_eq, ti_ne, Classical.not_not, kt_0] at q
      omega
    have b53 : IV x4 0 0 := ⟨by have q1 := b5; have q2 := kc_0; omega, by have q1 := b5; have q2 := kc_0; omega⟩
    refine m_ldc (v := (-1000002)) C dX12_year_7 q5_68 ?_
    exact m_iret C hr hlk (by decide) (by decide) dX12_year_9 ⟨_, rfl, i2, g6, (iv_wk kc_m1000002 (by decide))⟩

abbrev MS_X12_undo : List (Nat × Nat) := [(22, 9)]
abbrev AS_X12_undo : List Nat := [23]
set_option maxHeartbeats 4000000 in
set_option maxRecDepth 100000 in
theorem c_X12_undo (l : Launch) (G : Gt) (σ : Sg) (hI : Inv σ) : Mc l G yX12_undo cX12_undo 1 (some .int) 1 23 0 0 [.ref (G.1 22 0)] σ (PI fun r τ => Inv τ ∧ Fr MS_X12_undo AS_X12_undo σ τ ∧ IV r (-1000002) 23) := by
  refine Mc.of (L0 := [some (.ref (G.1 22 0))]) (by decide) (Nat.le_of_ble_eq_true rfl) rfl ?_
  intro p e s m args below meth c C hr hlk
  have C : Cx p s m args c cX12_undo 1 "LeanTowerModel" := C
  have k0 : (0 : Int32).toInt = 0 := by decide
  have k1 : (1 : Int32).toInt = 1 := by decide
  refine m_aload_n C dX12_undo_0 rfl rfl ?_
  refine g_22_9 C q4_125 dX12_undo_1 ?_
  refine m_topi (fun x1 ex1 => ?_)
  have b2 : IV x1 0 24 := by rw [ex1]; exact hI.1 22 0 9
  refine m_if_ne (tgt := 10) C dX12_undo_4 (by decide) (fun c3 => ?_) (fun c3 => ?_)
  · have f4 : x1.toInt ≠ 0 := by
      have q : _ := c3
      simp only [ti_nle, ti_nlt, ti_le, ti_lt, ti_eq, ti_ne, Classical.not_not, kt_0] at q
      omega
    have b5 : IV x1 1 24 := ⟨by have q1 := b2; have q2 := kc_0; omega, by have q1 := b2; have q2 := kc_0; omega⟩
    refine m_aload_n C dX12_undo_10 rfl rfl ?_
    refine m_dup C dX12_undo_11 rfl ?_
    refine g_22_9 C q4_125 dX12_undo_12 ?_
    refine m_eqs (w := x1) ex1.symm ?_
    refine m_iconst (v := 1) C dX12_undo_15 (by decide) ?_
    refine m_isub C dX12_undo_16 ?_
    refine m_topi (fun x6 ex6 => ?_)
    have tx6 : x6.toInt = x1.toInt - 1 := by rw [ex6, ti_subv b5 kc_1 (by decide), kt_1]
    have b7 : IV x6 0 23 := by rw [ex6]; exact iv_sub b5 kc_1 (by decide)
    refine p_22_9 C q4_125 dX12_undo_17 ?_
    refine m_tops (fun τ8 eτ8 => ?_)
    have i9 : Inv τ8 := eτ8 ▸ Inv.put hI (by decide) (iv_wk b7 (by decide))
    have f10 : Fr MS_X12_undo AS_X12_undo σ τ8 := eτ8 ▸ Fr.put (Fr.rf) (Or.inl (by decide))
    refine m_aload_n C dX12_undo_20 rfl rfl ?_
    refine m_sipush (v := 250) C dX12_undo_21 (by decide) ?_
    refine m_bipush (v := 50) C dX12_undo_24 (by decide) ?_
    refine m_aload_n C dX12_undo_26 rfl rfl ?_
    refine g_22_9 C q4_125 dX12_undo_27 ?_
    refine m_eqs (w := x6) (show gV τ8 22 0 9 = x6 from gV_put eτ8 (gV_self _ _ _ _ _)) ?_
    refine m_imul C dX12_undo_30 ?_
    refine m_topi (fun x11 ex11 => ?_)
    have tx11 : x11.toInt = 50 * x6.toInt := by rw [ex11, ti_mulv kc_50 b7 (by decide), kt_50]
    have b12 : IV x11 0 1150 := by rw [ex11]; exact iv_mul kc_50 b7 (by decide)
    refine m_iadd C dX12_undo_31 ?_
    refine m_topi (fun x13 ex13 => ?_)
    have tx13 : x13.toInt = 250 + x11.toInt := by rw [ex13, ti_addv kc_250 b12 (by decide), kt_250]
    have b14 : IV x13 250 1400 := by rw [ex13]; exact iv_add kc_250 b12 (by decide)
    refine m_iconst (v := 0) C dX12_undo_32 (by decide) ?_
    have q15 := kt_0
    refine m_callV (n := 2) (ci := 11) (st := []) C (c_X12_copyAll l G τ8 (x13) (0) i9 (iv_wk b14 (by decide)) (iv_wk kc_0 (by decide)) (by omega) (by omega) (by omega) (Or.inl (by omega))) (by decide) (by decide) rfl rfl rfl q5_38 q5_35 q5_37 q0_35 q1_7 (by decide +kernel) rfl (by decide) (by decide) rfl (Nat.le_of_ble_eq_true rfl) dX12_undo_33 ?_
    rintro _ τ16 ⟨rfl, i17, f18, h22⟩
    have g21 : Fr MS_X12_undo AS_X12_undo σ τ16 := Fr.call (f10) f18 (by decide)
    show MW p l e _ s m args below meth c _ 1 G 0 0 36 [some (.ref (G.1 22 0))] [] τ16
    refine m_aload_n C dX12_undo_36 rfl rfl ?_
    refine g_22_9 C q4_125 dX12_undo_37 ?_
    refine m_eqs (w := x6) (show gV τ16 22 0 9 = x6 from (f18.1 22 0 (9) (by decide) (by decide)).trans (show gV τ8 22 0 9 = x6 from gV_put eτ8 (gV_self _ _ _ _ _))) ?_
    exact m_iret C hr hlk (by decide) (by decide) dX12_undo_40 ⟨_, rfl, i17, g21, (iv_wk b7 (by decide))⟩
  · have f23 : x1.toInt = 0 := by
      have q : _ := c3
      simp only [ti_nle, ti_nlt, ti_le, ti_lt, ti_eq, ti_ne, Classical.not_not, kt_0] at q
      omega
    have b24 : IV x1 0 0 := ⟨by have q1 := b2; have q2 := kc_0; omega, by have q1 := b2; have q2 := kc_0; omega⟩
    refine m_ldc (v := (-1000002)) C dX12_undo_7 q5_68 ?_
    exact m_iret C hr hlk (by decide) (by decide) dX12_undo_9 ⟨_, rfl, hI, Fr.rf, (iv_wk kc_m1000002 (by decide))⟩

abbrev MS_X12_foretellNow : List (Nat × Nat) := [(22, 17)]
abbrev AS_X12_foretellNow : List Nat := [23]
set_option maxHeartbeats 4000000 in
set_option maxRecDepth 100000 in
theorem c_X12_foretellNow (l : Launch) (G : Gt) (σ : Sg) (hI : Inv σ) : Mc l G yX12_foretellNow cX12_foretellNow 1 (some .int) 4 92 0 0 [.ref (G.1 22 0)] σ (PI fun r τ => Inv τ ∧ Fr MS_X12_foretellNow AS_X12_foretellNow σ τ ∧ IV r (-2147483648) 2147483647) := by
  refine Mc.of (L0 := [some (.ref (G.1 22 0))]) (by decide) (Nat.le_of_ble_eq_true rfl) rfl ?_
  intro p e s m args below meth c C hr hlk
  have C : Cx p s m args c cX12_foretellNow 1 "LeanTowerModel" := C
  have k0 : (0 : Int32).toInt = 0 := by decide
  have k1 : (1 : Int32).toInt = 1 := by decide
  refine m_aload_n C dX12_foretellNow_0 rfl rfl ?_
  refine m_iconst (v := 0) C dX12_foretellNow_1 (by decide) ?_
  refine m_sipush (v := 200) C dX12_foretellNow_2 (by decide) ?_
  have q1 := kt_0
  have q2 := kt_200
  refine m_callV (n := 2) (ci := 11) (st := []) C (c_X12_copyAll l G σ (0) (200) hI (iv_wk kc_0 (by decide)) (iv_wk kc_200 (by decide)) (by omega) (by omega) (by omega) (Or.inl (by omega))) (by decide) (by decide) rfl rfl rfl q5_38 q5_35 q5_37 q0_35 q1_7 (by decide +kernel) rfl (by decide) (by decide) rfl (Nat.le_of_ble_eq_true rfl) dX12_foretellNow_5 ?_
  rintro _ τ3 ⟨rfl, i4, f5, h9⟩
  have g8 : Fr MS_X12_foretellNow AS_X12_foretellNow σ τ3 := Fr.call (Fr.rf) f5 (by decide)
  show MW p l e _ s m args below meth c _ 1 G 0 0 8 [some (.ref (G.1 22 0))] [] τ3
  refine m_aload_n C dX12_foretellNow_8 rfl rfl ?_
  refine m_iconst (v := (-1)) C dX12_foretellNow_9 (by decide) ?_
  refine m_iconst (v := 0) C dX12_foretellNow_10 (by decide) ?_
  refine m_callV (n := 2) (ci := 11) (st := []) C (c_X12_foretell l G τ3 ((-1)) (0) i4 (iv_wk kc_m1 (by decide))) (by decide) (by decide) rfl rfl rfl q5_132 q5_129 q5_131 q0_46 q1_7 (by decide +kernel) rfl (by decide) (by decide) rfl (Nat.le_of_ble_eq_true rfl) dX12_foretellNow_11 ?_
  rintro _ τ10 ⟨x13, rfl, i11, f12, b14⟩
  have g15 : Fr MS_X12_foretellNow AS_X12_foretellNow σ τ10 := Fr.call (g8) f12 (by decide)
  show MW p l e _ s m args below meth c _ 1 G 0 0 14 [some (.ref (G.1 22 0))] [.int x13] τ10
  exact m_iret C hr hlk (by decide) (by decide) dX12_foretellNow_14 ⟨_, rfl, i11, g15, b14⟩

abbrev MS_X12_worst : List (Nat × Nat) := [(22, 17)]
abbrev AS_X12_worst : List Nat := [23]
set_option maxHeartbeats 4000000 in
set_option maxRecDepth 100000 in
theorem c_X12_worst (l : Launch) (G : Gt) (σ : Sg) (a1 : Int32) (hI : Inv σ) : Mc l G yX12_worst cX12_worst 3 (some .int) 5 112 0 0 [.ref (G.1 22 0), .int a1] σ (PI fun r τ => Inv τ ∧ Fr MS_X12_worst AS_X12_worst σ τ ∧ IV r (-2147483648) 2147483647) := by
  refine Mc.of (L0 := [some (.ref (G.1 22 0)), some (.int a1), none]) (by decide) (Nat.le_of_ble_eq_true rfl) rfl ?_
  intro p e s m args below meth c C hr hlk
  have C : Cx p s m args c cX12_worst 3 "LeanTowerModel" := C
  have k0 : (0 : Int32).toInt = 0 := by decide
  have k1 : (1 : Int32).toInt = 1 := by decide
  refine m_aload_n C dX12_worst_0 rfl rfl ?_
  refine m_callV (n := 0) (ci := 11) (st := []) C (c_X12_isTower l G σ  hI ) (by decide) (by decide) rfl rfl rfl q5_67 q5_64 q5_66 q0_38 q1_7 (by decide +kernel) rfl (by decide) (by decide) rfl (Nat.le_of_ble_eq_true rfl) dX12_worst_1 ?_
  rintro _ τ1 ⟨x4, rfl, i2, f3, b5⟩
  have g6 : Fr MS_X12_worst AS_X12_worst σ τ1 := Fr.call (Fr.rf) f3 (by decide)
  show MW p l e _ s m args below meth c _ 3 G 0 0 4 [some (.ref (G.1 22 0)), some (.int a1), none] [.int x4] τ1
  refine m_if_ne (tgt := 10) C dX12_worst_4 (by decide) (fun c8 => ?_) (fun c8 => ?_)
  · have f9 : x4.toInt ≠ 0 := by
      have q : _ := c8
      simp only [ti_nle, ti_nlt, ti_le, ti_lt, ti_eq, ti_ne, Classical.not_not, kt_0] at q
      omega
    have b10 : IV x4 1 1 := ⟨by have q1 := b5; have q2 := kc_0; omega, by have q1 := b5; have q2 := kc_0; omega⟩
    refine m_iload_n C dX12_worst_10 rfl rfl ?_
    refine m_i2l C dX12_worst_11 ?_
    refine m_lconst (v := 0) C dX12_worst_12 (by decide) ?_
    refine m_lconst (v := 1) C dX12_worst_13 (by decide) ?_
    refine m_callS (n := 3) (st := []) C (c_X12_in l G τ1 ((a1 : Int32).toInt64) (0) (1) i2 ) q4_190 q4_188 q4_189 q1_7 (by decide +kernel) rfl (by decide) (by decide) rfl (Nat.le_of_ble_eq_true rfl) dX12_worst_14 ?_
    rintro _ τ11 ⟨x14, rfl, i12, f13, b15, h17⟩
    have g16 : Fr MS_X12_worst AS_X12_worst σ τ11 := Fr.call (g6) f13 (by decide)
    have f18 := tl_i a1
    have f19 := kl_0
    have f20 := kl_1
    show MW p l e _ s m args below meth c _ 3 G 0 0 17 [some (.ref (G.1 22 0)), some (.int a1), none] [.int x14] τ11
    refine m_if_ne (tgt := 23) C dX12_worst_17 (by decide) (fun c21 => ?_) (fun c21 => ?_)
    · have f22 : x14.toInt ≠ 0 := by
        have q : _ := c21
        simp only [ti_nle, ti_nlt, ti_le, ti_lt, ti_eq, ti_ne, Classical.not_not, kt_0] at q
        omega
      have b23 : IV x14 1 1 := ⟨by have q1 := b15; have q2 := kc_0; omega, by have q1 := b15; have q2 := kc_0; omega⟩
      have b24 : IV a1 0 1 := ⟨by have q1 := (iv_any a1); omega, by have q1 := (iv_any a1); omega⟩
      refine m_aload_n C dX12_worst_23 rfl rfl ?_
      refine m_callV (n := 0) (ci := 11) (st := []) C (c_X12_foretellNow l G τ11  i12 ) (by decide) (by decide) rfl rfl rfl q5_128 q5_125 q5_127 q0_45 q1_7 (by decide +kernel) rfl (by decide) (by decide) rfl (Nat.le_of_ble_eq_true rfl) dX12_worst_24 ?_
      rintro _ τ25 ⟨x28, rfl, i26, f27, b29⟩
      have g30 : Fr MS_X12_worst AS_X12_worst σ τ25 := Fr.call (g16) f27 (by decide)
      show MW p l e _ s m args below meth c _ 3 G 0 0 27 [some (.ref (G.1 22 0)), some (.int a1), none] [.int x28] τ25
      refine m_istore_n (L1 := [some (.ref (G.1 22 0)), some (.int a1), some (.int x28)]) C dX12_worst_27 rfl (by decide) rfl rfl ?_
      refine m_iload_n C dX12_worst_28 rfl rfl ?_
      refine m_if_ne (tgt := 36) C dX12_worst_29 (by decide) (fun c32 => ?_) (fun c32 => ?_)
      · have f33 : a1.toInt ≠ 0 := by
          have q : _ := c32
          simp only [ti_nle, ti_nlt, ti_le, ti_lt, ti_eq, ti_ne, Classical.not_not, kt_0] at q
          omega
        have b34 : IV a1 1 1 := ⟨by have q1 := b24; have q2 := kc_0; omega, by have q1 := b24; have q2 := kc_0; omega⟩
        refine m_aload_n C dX12_worst_36 rfl rfl ?_
        refine g_22_17 C q4_133 dX12_worst_37 ?_
        refine m_topi (fun x35 ex35 => ?_)
        exact m_iret C hr hlk (by decide) (by decide) dX12_worst_40 ⟨_, rfl, i26, g30, (iv_any x35)⟩
      · have f36 : a1.toInt = 0 := by
          have q : _ := c32
          simp only [ti_nle, ti_nlt, ti_le, ti_lt, ti_eq, ti_ne, Classical.not_not, kt_0] at q
          omega
        have b37 : IV a1 0 0 := ⟨by have q1 := b24; have q2 := kc_0; omega, by have q1 := b24; have q2 := kc_0; omega⟩
        refine m_iload_n C dX12_worst_32 rfl rfl ?_
        refine m_goto (tgt := 40) C dX12_worst_33 (by decide) ?_
        exact m_iret C hr hlk (by decide) (by decide) dX12_worst_40 ⟨_, rfl, i26, g30, b29⟩
    · have f38 : x14.toInt = 0 := by
        have q : _ := c21
        simp only [ti_nle, ti_nlt, ti_le, ti_lt, ti_eq, ti_ne, Classical.not_not, kt_0] at q
        omega
      have b39 : IV x14 0 0 := ⟨by have q1 := b15; have q2 := kc_0; omega, by have q1 := b15; have q2 := kc_0; omega⟩
      refine m_ldc (v := (-1000001)) C dX12_worst_20 q4_192 ?_
      exact m_iret C hr hlk (by decide) (by decide) dX12_worst_22 ⟨_, rfl, i12, g16, (iv_wk kc_m1000001 (by decide))⟩
  · have f40 : x4.toInt = 0 := by
      have q : _ := c8
      simp only [ti_nle, ti_nlt, ti_le, ti_lt, ti_eq, ti_ne, Classical.not_not, kt_0] at q
      omega
    have b41 : IV x4 0 0 := ⟨by have q1 := b5; have q2 := kc_0; omega, by have q1 := b5; have q2 := kc_0; omega⟩
    refine m_ldc (v := (-1000002)) C dX12_worst_7 q5_68 ?_
    exact m_iret C hr hlk (by decide) (by decide) dX12_worst_9 ⟨_, rfl, i2, g6, (iv_wk kc_m1000002 (by decide))⟩

abbrev MS_X12_most : List (Nat × Nat) := [(22, 17)]
abbrev AS_X12_most : List Nat := [23]
set_option maxHeartbeats 4000000 in
set_option maxRecDepth 100000 in
theorem c_X12_most (l : Launch) (G : Gt) (σ : Sg) (hI : Inv σ) : Mc l G yX12_most cX12_most 5 (some .int) 4 92 0 0 [.ref (G.1 22 0)] σ (PI fun r τ => Inv τ ∧ Fr MS_X12_most AS_X12_most σ τ ∧ IV r (-1000002) 127) := by
  refine Mc.of (L0 := [some (.ref (G.1 22 0)), none, none, none, none]) (by decide) (Nat.le_of_ble_eq_true rfl) rfl ?_
  intro p e s m args below meth c C hr hlk
  have C : Cx p s m args c cX12_most 5 "LeanTowerModel" := C
  have k0 : (0 : Int32).toInt = 0 := by decide
  have k1 : (1 : Int32).toInt = 1 := by decide
  have J57 : ∀ (n : Nat) (τ : Sg) (y1 : Int32) (y2 : Int32) (y3 : Int32), Inv τ → Fr MS_X12_most AS_X12_most σ τ → IV y1 0 127 → IV y2 (-1000000) 127 → IV y3 0 128 → (128 - y3.toInt).toNat < n → MW p l e { frames := 4, cells := 0, slots := 0, locals := 92 } s m args below meth c (MQ below (QP G (PI fun r τ => Inv τ ∧ Fr MS_X12_most AS_X12_most σ τ ∧ IV r (-1000002) 127)) args s 0 0 (aG G)) 5 G 0 0 57 [some (.ref (G.1 22 0)), some (.int y1), some (.int y2), some (.int y3), none] [] τ := by
    intro n
    induction n with
    | zero => intro τ y1 y2 y3 iτ fτ b_y1 b_y2 b_y3 hm; exact absurd hm (Nat.not_lt_zero _)
    | succ n ih57 =>
      intro τ y1 y2 y3 iτ fτ b_y1 b_y2 b_y3 hm57
      have J98 : ∀ (n : Nat) (τ : Sg) (y4 : Int32), Inv τ → Fr MS_X12_most AS_X12_most σ τ → IV y1 0 127 → IV y2 (-1000000) 127 → IV y3 0 127 → IV y4 0 7 → (7 - y4.toInt).toNat < n → MW p l e { frames := 4, cells := 0, slots := 0, locals := 92 } s m args below meth c (MQ below (QP G (PI fun r τ => Inv τ ∧ Fr MS_X12_most AS_X12_most σ τ ∧ IV r (-1000002) 127)) args s 0 0 (aG G)) 5 G 0 0 98 [some (.ref (G.1 22 0)), some (.int y1), some (.int y2), some (.int y3), some (.int y4)] [] τ := by
        intro n
        induction n with
        | zero => intro τ y4 iτ fτ b_y1 b_y2 b_y3 b_y4 hm; exact absurd hm (Nat.not_lt_zero _)
        | succ n ih98 =>
          intro τ y4 iτ fτ b_y1 b_y2 b_y3 b_y4 hm98
          refine m_iload C dX12_most_98 rfl ?_
          refine m_aload_n C dX12_most_100 rfl rfl ?_
          refine g_22_0 C q4_116 dX12_most_101 ?_
          refine m_iconst (v := 2) C dX12_most_104 (by decide) ?_
          refine al_23 C kc_2 (by decide) kn_2 dX12_most_105 ?_
          refine m_topi (fun x1 ex1 => ?_)
          have b2 : IV x1 0 7 := by rw [ex1]; exact iτ.1 23 0 2
          refine m_icmp_ge (tgt := 150) C dX12_most_106 (by decide) (fun c3 => ?_) (fun c3 => ?_)
          · have f4 : x1.toInt ≤ y4.toInt := by
              have q : _ := c3
              simp only [ti_nle, ti_nlt, ti_le, ti_lt, ti_eq, ti_ne, Classical.not_not] at q
              omega
            refine m_aload_n C dX12_most_150 rfl rfl ?_
            refine m_iconst (v := (-1)) C dX12_most_151 (by decide) ?_
            refine m_iconst (v := 0) C dX12_most_152 (by decide) ?_
            refine m_callV (n := 2) (ci := 11) (st := []) C (c_X12_foretell l G τ ((-1)) (0) iτ (iv_wk kc_m1 (by decide))) (by decide) (by decide) rfl rfl rfl q5_132 q5_129 q5_131 q0_46 q1_7 (by decide +kernel) rfl (by decide) (by decide) rfl (Nat.le_of_ble_eq_true rfl) dX12_most_153 ?_
            rintro _ τ5 ⟨x8, rfl, i6, f7, b9⟩
            have g10 : Fr MS_X12_most AS_X12_most σ τ5 := Fr.call (fτ) f7 (by decide)
            show MW p l e _ s m args below meth c _ 5 G 0 0 156 [some (.ref (G.1 22 0)), some (.int y1), some (.int y2), some (.int y3), some (.int y4)] [.int x8] τ5
            refine m_pop C dX12_most_156 rfl ?_
            refine m_aload_n C dX12_most_157 rfl rfl ?_
            refine g_22_17 C q4_133 dX12_most_158 ?_
            refine m_topi (fun x12 ex12 => ?_)
            refine m_ldc (v := (-1000000)) C dX12_most_161 q5_70 ?_
            refine m_icmp_ne (tgt := 170) C dX12_most_163 (by decide) (fun c13 => ?_) (fun c13 => ?_)
            · have f14 : x12.toInt ≠ -1000000 := by
                have q : _ := c13
                simp only [ti_nle, ti_nlt, ti_le, ti_lt, ti_eq, ti_ne, Classical.not_not, kt_m1000000] at q
                omega
              refine m_iload_n C dX12_most_170 rfl rfl ?_
              refine m_istore_n (L1 := [some (.ref (G.1 22 0)), some (.int y1), some (.int y2), some (.int y3), some (.int y4)]) C dX12_most_171 rfl (by decide) rfl rfl ?_
              obtain ⟨x15, ex15⟩ : ∃ y : Int32, y = y3 + 1 := ⟨_, rfl⟩
              have tx15 : x15.toInt = y3.toInt + 1 := by rw [ex15, ti_addv b_y3 kc_1 (by decide), kt_1]
              have b16 : IV x15 1 128 := by rw [ex15]; exact iv_add b_y3 kc_1 (by decide)
              refine m_iinc (v := x15) (L1 := [some (.ref (G.1 22 0)), some (.int y1), some (.int y2), some (.int x15), some (.int y4)]) C dX12_most_172 rfl (by rw [ex15]; rfl) (by decide) rfl rfl ?_
              refine m_goto (tgt := 57) C dX12_most_175 (by decide) ?_
              refine m_sub (L1 := [some (.ref (G.1 22 0)), some (.int y1), some (.int y2), some (.int x15), none]) ⟨rfl, ⟨rfl, ⟨rfl, ⟨rfl, trivial⟩⟩⟩⟩ ?_
              exact ih57 τ5 y1 y2 x15 i6 g10 b_y1 b_y2 (iv_wk b16 (by decide)) (by have q := hm57; omega)
            · have f17 : x12.toInt = -1000000 := by
                have q : _ := c13
                simp only [ti_nle, ti_nlt, ti_le, ti_lt, ti_eq, ti_ne, Classical.not_not, kt_m1000000] at q
                omega
              have b18 : IV x12 (-1000000) (-1000000) := ⟨by have q1 := (iv_any x12); have q2 := kc_m1000000; omega, by have q1 := (iv_any x12); have q2 := kc_m1000000; omega⟩
              refine m_iload_n C dX12_most_166 rfl rfl ?_
              refine m_goto (tgt := 171) C dX12_most_167 (by decide) ?_
              refine m_istore_n (L1 := [some (.ref (G.1 22 0)), some (.int y1), some (.int y3), some (.int y3), some (.int y4)]) C dX12_most_171 rfl (by decide) rfl rfl ?_
              obtain ⟨x19, ex19⟩ : ∃ y : Int32, y = y3 + 1 := ⟨_, rfl⟩
              have tx19 : x19.toInt = y3.toInt + 1 := by rw [ex19, ti_addv b_y3 kc_1 (by decide), kt_1]
              have b20 : IV x19 1 128 := by rw [ex19]; exact iv_add b_y3 kc_1 (by decide)
              refine m_iinc (v := x19) (L1 := [some (.ref (G.1 22 0)), some (.int y1), some (.int y3), some (.int x19), some (.int y4)]) C dX12_most_172 rfl (by rw [ex19]; rfl) (by decide) rfl rfl ?_
              refine m_goto (tgt := 57) C dX12_most_175 (by decide) ?_
              refine m_sub (L1 := [some (.ref (G.1 22 0)), some (.int y1), some (.int y3), some (.int x19), none]) ⟨rfl, ⟨rfl, ⟨rfl, ⟨rfl, trivial⟩⟩⟩⟩ ?_
              exact ih57 τ5 y1 y3 x19 i6 g10 b_y1 (iv_wk b_y3 (by decide)) (iv_wk b20 (by decide)) (by have q := hm57; omega)
          · have f21 : y4.toInt < x1.toInt := by
              have q : _ := c3
              simp only [ti_nle, ti_nlt, ti_le, ti_lt, ti_eq, ti_ne, Classical.not_not] at q
              omega
            have b22 : IV y4 0 6 := ⟨by have q1 := b_y4; have q2 := b2; omega, by have q1 := b_y4; have q2 := b2; omega⟩
            have b23 : IV x1 1 7 := ⟨by have q1 := b_y4; have q2 := b2; omega, by have q1 := b_y4; have q2 := b2; omega⟩
            refine m_aload_n C dX12_most_109 rfl rfl ?_
            refine g_22_0 C q4_116 dX12_most_110 ?_
            refine m_sipush (v := 231) C dX12_most_113 (by decide) ?_
            refine m_iload C dX12_most_116 rfl ?_
            refine m_iadd C dX12_most_118 ?_
            refine m_topi (fun x24 ex24 => ?_)
            have tx24 : x24.toInt = 231 + y4.toInt := by rw [ex24, ti_addv kc_231 b22 (by decide), kt_231]
            have b25 : IV x24 231 237 := by rw [ex24]; exact iv_add kc_231 b22 (by decide)
            refine m_iload_n C dX12_most_119 rfl rfl ?_
            refine m_iload C dX12_most_120 rfl ?_
            refine m_callS (n := 2) (st := [.int x24, .ref (G.1 23 0)]) C (c_X12_has l G τ (y3) (y4) iτ ) q5_142 q5_140 q5_141 q1_7 (by decide +kernel) rfl (by decide) (by decide) rfl (Nat.le_of_ble_eq_true rfl) dX12_most_122 ?_
            rintro _ τ26 ⟨x29, rfl, i27, f28, b30⟩
            have g31 : Fr MS_X12_most AS_X12_most σ τ26 := Fr.call (fτ) f28 (by decide)
            show MW p l e _ s m args below meth c _ 5 G 0 0 125 [some (.ref (G.1 22 0)), some (.int y1), some (.int y2), some (.int y3), some (.int y4)] [.int x29, .int x24, .ref (G.1 23 0)] τ26
            refine m_if_eq (tgt := 132) C dX12_most_125 (by decide) (fun c33 => ?_) (fun c33 => ?_)
            · have f34 : x29.toInt = 0 := by
                have q : _ := c33
                simp only [ti_nle, ti_nlt, ti_le, ti_lt, ti_eq, ti_ne, Classical.not_not, kt_0] at q
                omega
              have b35 : IV x29 0 0 := ⟨by have q1 := b30; have q2 := kc_0; omega, by have q1 := b30; have q2 := kc_0; omega⟩
              refine m_aload_n C dX12_most_132 rfl rfl ?_
              refine g_22_0 C q4_116 dX12_most_133 ?_
              refine m_sipush (v := 231) C dX12_most_136 (by decide) ?_
              refine m_iload C dX12_most_139 rfl ?_
              refine m_iadd C dX12_most_141 ?_
              refine m_topi (fun x36 ex36 => ?_)
              have tx36 : x36.toInt = 231 + y4.toInt := by rw [ex36, ti_addv kc_231 b22 (by decide), kt_231]
              have b37 : IV x36 231 237 := by rw [ex36]; exact iv_add kc_231 b22 (by decide)
              refine al_23 C b37 (by decide) rfl dX12_most_142 ?_
              refine m_topi (fun x38 ex38 => ?_)
              refine as_23 C b25 (by decide) rfl dX12_most_143 ?_
              refine m_tops (fun τ39 eτ39 => ?_)
              have i40 : Inv τ39 := eτ39 ▸ Inv.putW i27 (by omega)
              have f41 : Fr MS_X12_most AS_X12_most σ τ39 := eτ39 ▸ Fr.put (g31) (Or.inr (by decide))
              obtain ⟨x42, ex42⟩ : ∃ y : Int32, y = y4 + 1 := ⟨_, rfl⟩
              have tx42 : x42.toInt = y4.toInt + 1 := by rw [ex42, ti_addv b22 kc_1 (by decide), kt_1]
              have b43 : IV x42 1 7 := by rw [ex42]; exact iv_add b22 kc_1 (by decide)
              refine m_iinc (v := x42) (L1 := [some (.ref (G.1 22 0)), some (.int y1), some (.int y2), some (.int y3), some (.int x42)]) C dX12_most_144 rfl (by rw [ex42]; rfl) (by decide) rfl rfl ?_
              refine m_goto (tgt := 98) C dX12_most_147 (by decide) ?_
              exact ih98 τ39 x42 i40 f41 b_y1 b_y2 b_y3 (iv_wk b43 (by decide)) (by have q := hm98; omega)
            · have f44 : x29.toInt ≠ 0 := by
                have q : _ := c33
                simp only [ti_nle, ti_nlt, ti_le, ti_lt, ti_eq, ti_ne, Classical.not_not, kt_0] at q
                omega
              have b45 : IV x29 1 1 := ⟨by have q1 := b30; have q2 := kc_0; omega, by have q1 := b30; have q2 := kc_0; omega⟩
              refine m_iconst (v := 1) C dX12_most_128 (by decide) ?_
              refine m_goto (tgt := 143) C dX12_most_129 (by decide) ?_
              refine as_23 C b25 (by decide) rfl dX12_most_143 ?_
              refine m_tops (fun τ46 eτ46 => ?_)
              have i47 : Inv τ46 := eτ46 ▸ Inv.putW i27 (by omega)
              have f48 : Fr MS_X12_most AS_X12_most σ τ46 := eτ46 ▸ Fr.put (g31) (Or.inr (by decide))
              obtain ⟨x49, ex49⟩ : ∃ y : Int32, y = y4 + 1 := ⟨_, rfl⟩
              have tx49 : x49.toInt = y4.toInt + 1 := by rw [ex49, ti_addv b22 kc_1 (by decide), kt_1]
              have b50 : IV x49 1 7 := by rw [ex49]; exact iv_add b22 kc_1 (by decide)
              refine m_iinc (v := x49) (L1 := [some (.ref (G.1 22 0)), some (.int y1), some (.int y2), some (.int y3), some (.int x49)]) C dX12_most_144 rfl (by rw [ex49]; rfl) (by decide) rfl rfl ?_
              refine m_goto (tgt := 98) C dX12_most_147 (by decide) ?_
              exact ih98 τ46 x49 i47 f48 b_y1 b_y2 b_y3 (iv_wk b50 (by decide)) (by have q := hm98; omega)
      have J87 : ∀ (τ : Sg), Inv τ → Fr MS_X12_most AS_X12_most σ τ → IV y1 0 127 → IV y2 (-1000000) 127 → IV y3 0 127 → MW p l e { frames := 4, cells := 0, slots := 0, locals := 92 } s m args below meth c (MQ below (QP G (PI fun r τ => Inv τ ∧ Fr MS_X12_most AS_X12_most σ τ ∧ IV r (-1000002) 127)) args s 0 0 (aG G)) 5 G 0 0 87 [some (.ref (G.1 22 0)), some (.int y1), some (.int y2), some (.int y3), none] [] τ := by
        intro τ iτ fτ b_y1 b_y2 b_y3
        refine m_aload_n C dX12_most_87 rfl rfl ?_
        refine m_iconst (v := 0) C dX12_most_88 (by decide) ?_
        refine m_sipush (v := 200) C dX12_most_89 (by decide) ?_
        have q51 := kt_0
        have q52 := kt_200
        refine m_callV (n := 2) (ci := 11) (st := []) C (c_X12_copyAll l G τ (0) (200) iτ (iv_wk kc_0 (by decide)) (iv_wk kc_200 (by decide)) (by omega) (by omega) (by omega) (Or.inl (by omega))) (by decide) (by decide) rfl rfl rfl q5_38 q5_35 q5_37 q0_35 q1_7 (by decide +kernel) rfl (by decide) (by decide) rfl (Nat.le_of_ble_eq_true rfl) dX12_most_92 ?_
        rintro _ τ53 ⟨rfl, i54, f55, h59⟩
        have g58 : Fr MS_X12_most AS_X12_most σ τ53 := Fr.call (fτ) f55 (by decide)
        show MW p l e _ s m args below meth c _ 5 G 0 0 95 [some (.ref (G.1 22 0)), some (.int y1), some (.int y2), some (.int y3), none] [] τ53
        refine m_iconst (v := 0) C dX12_most_95 (by decide) ?_
        refine m_istore (L1 := [some (.ref (G.1 22 0)), some (.int y1), some (.int y2), some (.int y3), some (.int 0)]) C dX12_most_96 (by decide) rfl rfl ?_
        exact J98 ((7 - (0 : Int32).toInt).toNat + 1) τ53 0 i54 g58 b_y1 b_y2 b_y3 (iv_wk kc_0 (by decide)) (Nat.lt_succ_self _)
      refine m_iload_n C dX12_most_57 rfl rfl ?_
      refine m_iload_n C dX12_most_58 rfl rfl ?_
      refine m_icmp_gt (tgt := 178) C dX12_most_59 (by decide) (fun c60 => ?_) (fun c60 => ?_)
      · have f61 : y1.toInt < y3.toInt := by
          have q : _ := c60
          simp only [ti_nle, ti_nlt, ti_le, ti_lt, ti_eq, ti_ne, Classical.not_not] at q
          omega
        have b62 : IV y3 1 128 := ⟨by have q1 := b_y1; have q2 := b_y3; omega, by have q1 := b_y1; have q2 := b_y3; omega⟩
        refine m_iload_n C dX12_most_178 rfl rfl ?_
        exact m_iret C hr hlk (by decide) (by decide) dX12_most_179 ⟨_, rfl, iτ, fτ, (iv_wk b_y2 (by decide))⟩
      · have f63 : y3.toInt ≤ y1.toInt := by
          have q : _ := c60
          simp only [ti_nle, ti_nlt, ti_le, ti_lt, ti_eq, ti_ne, Classical.not_not] at q
          omega
        have b64 : IV y3 0 127 := ⟨by have q1 := b_y3; have q2 := b_y1; omega, by have q1 := b_y3; have q2 := b_y1; omega⟩
        refine m_iload_n C dX12_most_62 rfl rfl ?_
        refine m_iload_n C dX12_most_63 rfl rfl ?_
        refine m_iconst (v := (-1)) C dX12_most_64 (by decide) ?_
        refine m_ixor C dX12_most_65 ?_
        refine m_topi (fun x65 ex65 => ?_)
        refine m_iand C dX12_most_66 ?_
        refine m_topi (fun x66 ex66 => ?_)
        have b67 : IV x66 0 127 := by rw [ex66]; exact iv_and_l b64 (by decide)
        refine m_if_ne (tgt := 172) C dX12_most_67 (by decide) (fun c68 => ?_) (fun c68 => ?_)
        · have f69 : x66.toInt ≠ 0 := by
            have q : _ := c68
            simp only [ti_nle, ti_nlt, ti_le, ti_lt, ti_eq, ti_ne, Classical.not_not, kt_0] at q
            omega
          have b70 : IV x66 1 127 := ⟨by have q1 := b67; have q2 := kc_0; omega, by have q1 := b67; have q2 := kc_0; omega⟩
          obtain ⟨x71, ex71⟩ : ∃ y : Int32, y = y3 + 1 := ⟨_, rfl⟩
          have tx71 : x71.toInt = y3.toInt + 1 := by rw [ex71, ti_addv b64 kc_1 (by decide), kt_1]
          have b72 : IV x71 1 128 := by rw [ex71]; exact iv_add b64 kc_1 (by decide)
          refine m_iinc (v := x71) (L1 := [some (.ref (G.1 22 0)), some (.int y1), some (.int y2), some (.int x71), none]) C dX12_most_172 rfl (by rw [ex71]; rfl) (by decide) rfl rfl ?_
          refine m_goto (tgt := 57) C dX12_most_175 (by decide) ?_
          exact ih57 τ y1 y2 x71 iτ fτ b_y1 b_y2 (iv_wk b72 (by decide)) (by have q := hm57; omega)
        · have f73 : x66.toInt = 0 := by
            have q : _ := c68
            simp only [ti_nle, ti_nlt, ti_le, ti_lt, ti_eq, ti_ne, Classical.not_not, kt_0] at q
            omega
          have b74 : IV x66 0 0 := ⟨by have q1 := b67; have q2 := kc_0; omega, by have q1 := b67; have q2 := kc_0; omega⟩
          refine m_iload_n C dX12_most_70 rfl rfl ?_
          refine m_ldc (v := (-1000000)) C dX12_most_71 q5_70 ?_
          refine m_icmp_eq (tgt := 87) C dX12_most_73 (by decide) (fun c75 => ?_) (fun c75 => ?_)
          · have f76 : y2.toInt = -1000000 := by
              have q : _ := c75
              simp only [ti_nle, ti_nlt, ti_le, ti_lt, ti_eq, ti_ne, Classical.not_not, kt_m1000000] at q
              omega
            have b77 : IV y2 (-1000000) (-1000000) := ⟨by have q1 := b_y2; have q2 := kc_m1000000; omega, by have q1 := b_y2; have q2 := kc_m1000000; omega⟩
            exact J87 τ iτ fτ b_y1 (iv_wk b77 (by decide)) b64
          · have f78 : y2.toInt ≠ -1000000 := by
              have q : _ := c75
              simp only [ti_nle, ti_nlt, ti_le, ti_lt, ti_eq, ti_ne, Classical.not_not, kt_m1000000] at q
              omega
            have b79 : IV y2 (-999999) 127 := ⟨by have q1 := b_y2; have q2 := kc_m1000000; omega, by have q1 := b_y2; have q2 := kc_m1000000; omega⟩
            refine m_iload_n C dX12_most_76 rfl rfl ?_
            refine m_callS (n := 1) (st := []) C (c_X12_ones l G τ (y3) iτ ) q5_139 q5_137 q5_138 q1_7 (by decide +kernel) rfl (by decide) (by decide) rfl (Nat.le_of_ble_eq_true rfl) dX12_most_77 ?_
            rintro _ τ80 ⟨x83, rfl, i81, f82, b84⟩
            have g85 : Fr MS_X12_most AS_X12_most σ τ80 := Fr.call (fτ) f82 (by decide)
            show MW p l e _ s m args below meth c _ 5 G 0 0 80 [some (.ref (G.1 22 0)), some (.int y1), some (.int y2), some (.int y3), none] [.int x83] τ80
            refine m_iload_n C dX12_most_80 rfl rfl ?_
            refine m_callS (n := 1) (st := [.int x83]) C (c_X12_ones l G τ80 (y2) i81 ) q5_139 q5_137 q5_138 q1_7 (by decide +kernel) rfl (by decide) (by decide) rfl (Nat.le_of_ble_eq_true rfl) dX12_most_81 ?_
            rintro _ τ87 ⟨x90, rfl, i88, f89, b91⟩
            have g92 : Fr MS_X12_most AS_X12_most σ τ87 := Fr.call (g85) f89 (by decide)
            show MW p l e _ s m args below meth c _ 5 G 0 0 84 [some (.ref (G.1 22 0)), some (.int y1), some (.int y2), some (.int y3), none] [.int x90, .int x83] τ87
            refine m_icmp_le (tgt := 172) C dX12_most_84 (by decide) (fun c94 => ?_) (fun c94 => ?_)
            · have f95 : x83.toInt ≤ x90.toInt := by
                have q : _ := c94
                simp only [ti_nle, ti_nlt, ti_le, ti_lt, ti_eq, ti_ne, Classical.not_not] at q
                omega
              obtain ⟨x96, ex96⟩ : ∃ y : Int32, y = y3 + 1 := ⟨_, rfl⟩
              have tx96 : x96.toInt = y3.toInt + 1 := by rw [ex96, ti_addv b64 kc_1 (by decide), kt_1]
              have b97 : IV x96 1 128 := by rw [ex96]; exact iv_add b64 kc_1 (by decide)
              refine m_iinc (v := x96) (L1 := [some (.ref (G.1 22 0)), some (.int y1), some (.int y2), some (.int x96), none]) C dX12_most_172 rfl (by rw [ex96]; rfl) (by decide) rfl rfl ?_
              refine m_goto (tgt := 57) C dX12_most_175 (by decide) ?_
              exact ih57 τ87 y1 y2 x96 i88 g92 b_y1 (iv_wk b79 (by decide)) (iv_wk b97 (by decide)) (by have q := hm57; omega)
            · have f98 : x90.toInt < x83.toInt := by
                have q : _ := c94
                simp only [ti_nle, ti_nlt, ti_le, ti_lt, ti_eq, ti_ne, Classical.not_not] at q
                omega
              have b99 : IV x90 (-2147483648) 2147483646 := ⟨by have q1 := b91; have q2 := b84; omega, by have q1 := b91; have q2 := b84; omega⟩
              have b100 : IV x83 (-2147483647) 2147483647 := ⟨by have q1 := b91; have q2 := b84; omega, by have q1 := b91; have q2 := b84; omega⟩
              exact J87 τ87 i88 g92 b_y1 (iv_wk b79 (by decide)) b64
  have J14 : ∀ (n : Nat) (τ : Sg) (y1 : Int32) (y2 : Int32), Inv τ → Fr MS_X12_most AS_X12_most σ τ → IV y1 0 127 → IV y2 0 7 → (7 - y2.toInt).toNat < n → MW p l e { frames := 4, cells := 0, slots := 0, locals := 92 } s m args below meth c (MQ below (QP G (PI fun r τ => Inv τ ∧ Fr MS_X12_most AS_X12_most σ τ ∧ IV r (-1000002) 127)) args s 0 0 (aG G)) 5 G 0 0 14 [some (.ref (G.1 22 0)), some (.int y1), some (.int y2), none, none] [] τ := by
    intro n
    induction n with
    | zero => intro τ y1 y2 iτ fτ b_y1 b_y2 hm; exact absurd hm (Nat.not_lt_zero _)
    | succ n ih14 =>
      intro τ y1 y2 iτ fτ b_y1 b_y2 hm14
      refine m_iload_n C dX12_most_14 rfl rfl ?_
      refine m_aload_n C dX12_most_15 rfl rfl ?_
      refine g_22_0 C q4_116 dX12_most_16 ?_
      refine m_iconst (v := 2) C dX12_most_19 (by decide) ?_
      refine al_23 C kc_2 (by decide) kn_2 dX12_most_20 ?_
      refine m_topi (fun x101 ex101 => ?_)
      have b102 : IV x101 0 7 := by rw [ex101]; exact iτ.1 23 0 2
      refine m_icmp_ge (tgt := 52) C dX12_most_21 (by decide) (fun c103 => ?_) (fun c103 => ?_)
      · have f104 : x101.toInt ≤ y2.toInt := by
          have q : _ := c103
          simp only [ti_nle, ti_nlt, ti_le, ti_lt, ti_eq, ti_ne, Classical.not_not] at q
          omega
        refine m_ldc (v := (-1000000)) C dX12_most_52 q5_70 ?_
        refine m_istore_n (L1 := [some (.ref (G.1 22 0)), some (.int y1), some (.int (-1000000)), none, none]) C dX12_most_54 rfl (by decide) rfl rfl ?_
        refine m_iconst (v := 0) C dX12_most_55 (by decide) ?_
        refine m_istore_n (L1 := [some (.ref (G.1 22 0)), some (.int y1), some (.int (-1000000)), some (.int 0), none]) C dX12_most_56 rfl (by decide) rfl rfl ?_
        exact J57 ((128 - (0 : Int32).toInt).toNat + 1) τ y1 (-1000000) 0 iτ fτ b_y1 (iv_wk kc_m1000000 (by decide)) (iv_wk kc_0 (by decide)) (Nat.lt_succ_self _)
      · have f105 : y2.toInt < x101.toInt := by
          have q : _ := c103
          simp only [ti_nle, ti_nlt, ti_le, ti_lt, ti_eq, ti_ne, Classical.not_not] at q
          omega
        have b106 : IV y2 0 6 := ⟨by have q1 := b_y2; have q2 := b102; omega, by have q1 := b_y2; have q2 := b102; omega⟩
        have b107 : IV x101 1 7 := ⟨by have q1 := b_y2; have q2 := b102; omega, by have q1 := b_y2; have q2 := b102; omega⟩
        refine m_iload_n C dX12_most_24 rfl rfl ?_
        refine m_aload_n C dX12_most_25 rfl rfl ?_
        refine g_22_0 C q4_116 dX12_most_26 ?_
        refine m_bipush (v := 24) C dX12_most_29 (by decide) ?_
        refine m_iload_n C dX12_most_31 rfl rfl ?_
        refine m_iadd C dX12_most_32 ?_
        refine m_topi (fun x108 ex108 => ?_)
        have tx108 : x108.toInt = 24 + y2.toInt := by rw [ex108, ti_addv kc_24 b106 (by decide), kt_24]
        have b109 : IV x108 24 30 := by rw [ex108]; exact iv_add kc_24 b106 (by decide)
        refine al_23 C b109 (by decide) rfl dX12_most_33 ?_
        refine m_topi (fun x110 ex110 => ?_)
        refine m_if_ge (tgt := 43) C dX12_most_34 (by decide) (fun c111 => ?_) (fun c111 => ?_)
        · have f112 : 0 ≤ x110.toInt := by
            have q : _ := c111
            simp only [ti_nle, ti_nlt, ti_le, ti_lt, ti_eq, ti_ne, Classical.not_not, kt_0] at q
            omega
          have b113 : IV x110 0 2147483647 := ⟨by have q1 := kc_0; have q2 := (iv_any x110); omega, by have q1 := kc_0; have q2 := (iv_any x110); omega⟩
          refine m_iconst (v := 0) C dX12_most_43 (by decide) ?_
          refine m_ior C dX12_most_44 ?_
          refine m_topi (fun x114 ex114 => ?_)
          have b115 : IV x114 0 127 := by rw [ex114]; exact iv_or 7 b_y1 kc_0 (by decide)
          refine m_istore_n (L1 := [some (.ref (G.1 22 0)), some (.int x114), some (.int y2), none, none]) C dX12_most_45 rfl (by decide) rfl rfl ?_
          obtain ⟨x116, ex116⟩ : ∃ y : Int32, y = y2 + 1 := ⟨_, rfl⟩
          have tx116 : x116.toInt = y2.toInt + 1 := by rw [ex116, ti_addv b106 kc_1 (by decide), kt_1]
          have b117 : IV x116 1 7 := by rw [ex116]; exact iv_add b106 kc_1 (by decide)
          refine m_iinc (v := x116) (L1 := [some (.ref (G.1 22 0)), some (.int x114), some (.int x116), none, none]) C dX12_most_46 rfl (by rw [ex116]; rfl) (by decide) rfl rfl ?_
          refine m_goto (tgt := 14) C dX12_most_49 (by decide) ?_
          exact ih14 τ x114 x116 iτ fτ b115 (iv_wk b117 (by decide)) (by have q := hm14; omega)
        · have f118 : x110.toInt < 0 := by
            have q : _ := c111
            simp only [ti_nle, ti_nlt, ti_le, ti_lt, ti_eq, ti_ne, Classical.not_not, kt_0] at q
            omega
          have b119 : IV x110 (-2147483648) (-1) := ⟨by have q1 := (iv_any x110); have q2 := kc_0; omega, by have q1 := (iv_any x110); have q2 := kc_0; omega⟩
          refine m_iconst (v := 1) C dX12_most_37 (by decide) ?_
          refine m_iload_n C dX12_most_38 rfl rfl ?_
          refine m_ishl C dX12_most_39 ?_
          refine m_topi (fun x120 ex120 => ?_)
          have b121 : IV x120 1 64 := by rw [ex120]; exact iv_shl1 b106 (by decide)
          refine m_goto (tgt := 44) C dX12_most_40 (by decide) ?_
          refine m_ior C dX12_most_44 ?_
          refine m_topi (fun x122 ex122 => ?_)
          have b123 : IV x122 0 127 := by rw [ex122]; exact iv_or 7 b_y1 b121 (by decide)
          refine m_istore_n (L1 := [some (.ref (G.1 22 0)), some (.int x122), some (.int y2), none, none]) C dX12_most_45 rfl (by decide) rfl rfl ?_
          obtain ⟨x124, ex124⟩ : ∃ y : Int32, y = y2 + 1 := ⟨_, rfl⟩
          have tx124 : x124.toInt = y2.toInt + 1 := by rw [ex124, ti_addv b106 kc_1 (by decide), kt_1]
          have b125 : IV x124 1 7 := by rw [ex124]; exact iv_add b106 kc_1 (by decide)
          refine m_iinc (v := x124) (L1 := [some (.ref (G.1 22 0)), some (.int x122), some (.int x124), none, none]) C dX12_most_46 rfl (by rw [ex124]; rfl) (by decide) rfl rfl ?_
          refine m_goto (tgt := 14) C dX12_most_49 (by decide) ?_
          exact ih14 τ x122 x124 iτ fτ b123 (iv_wk b125 (by decide)) (by have q := hm14; omega)
  refine m_aload_n C dX12_most_0 rfl rfl ?_
  refine m_callV (n := 0) (ci := 11) (st := []) C (c_X12_isTower l G σ  hI ) (by decide) (by decide) rfl rfl rfl q5_67 q5_64 q5_66 q0_38 q1_7 (by decide +kernel) rfl (by decide) (by decide) rfl (Nat.le_of_ble_eq_true rfl) dX12_most_1 ?_
  rintro _ τ126 ⟨x129, rfl, i127, f128, b130⟩
  have g131 : Fr MS_X12_most AS_X12_most σ τ126 := Fr.call (Fr.rf) f128 (by decide)
  show MW p l e _ s m args below meth c _ 5 G 0 0 4 [some (.ref (G.1 22 0)), none, none, none, none] [.int x129] τ126
  refine m_if_ne (tgt := 10) C dX12_most_4 (by decide) (fun c133 => ?_) (fun c133 => ?_)
  · have f134 : x129.toInt ≠ 0 := by
      have q : _ := c133
      simp only [ti_nle, ti_nlt, ti_le, ti_lt, ti_eq, ti_ne, Classical.not_not, kt_0] at q
      omega
    have b135 : IV x129 1 1 := ⟨by have q1 := b130; have q2 := kc_0; omega, by have q1 := b130; have q2 := kc_0; omega⟩
    refine m_iconst (v := 0) C dX12_most_10 (by decide) ?_
    refine m_istore_n (L1 := [some (.ref (G.1 22 0)), some (.int 0), none, none, none]) C dX12_most_11 rfl (by decide) rfl rfl ?_
    refine m_iconst (v := 0) C dX12_most_12 (by decide) ?_
    refine m_istore_n (L1 := [some (.ref (G.1 22 0)), some (.int 0), some (.int 0), none, none]) C dX12_most_13 rfl (by decide) rfl rfl ?_
    exact J14 ((7 - (0 : Int32).toInt).toNat + 1) τ126 0 0 i127 g131 (iv_wk kc_0 (by decide)) (iv_wk kc_0 (by decide)) (Nat.lt_succ_self _)
  · have f136 : x129.toInt = 0 := by
      have q : _ := c133
      simp only [ti_nle, ti_nlt, ti_le, ti_lt, ti_eq, ti_ne, Classical.not_not, kt_0] at q
      omega
    have b137 : IV x129 0 0 := ⟨by have q1 := b130; have q2 := kc_0; omega, by have q1 := b130; have q2 := kc_0; omega⟩
    refine m_ldc (v := (-1000002)) C dX12_most_7 q5_68 ?_
    exact m_iret C hr hlk (by decide) (by decide) dX12_most_9 ⟨_, rfl, i127, g131, (iv_wk kc_m1000002 (by decide))⟩

abbrev MS_X12_two : List (Nat × Nat) := [(22, 17)]
abbrev AS_X12_two : List Nat := [23]
set_option maxHeartbeats 4000000 in
set_option maxRecDepth 100000 in
theorem c_X12_two (l : Launch) (G : Gt) (σ : Sg) (a1 : Int32) (a2 : Int32) (a3 : Int32) (hI : Inv σ) : Mc l G yX12_two cX12_two 8 (some .int) 4 92 0 0 [.ref (G.1 22 0), .int a1, .int a2, .int a3] σ (PI fun r τ => Inv τ ∧ Fr MS_X12_two AS_X12_two σ τ ∧ IV r (-2147483648) 2147483647) := by
  refine Mc.of (L0 := [some (.ref (G.1 22 0)), some (.int a1), some (.int a2), some (.int a3), none, none, none, none]) (by decide) (Nat.le_of_ble_eq_true rfl) rfl ?_
  intro p e s m args below meth c C hr hlk
  have C : Cx p s m args c cX12_two 8 "LeanTowerModel" := C
  have k0 : (0 : Int32).toInt = 0 := by decide
  have k1 : (1 : Int32).toInt = 1 := by decide
  have J67 : ∀ (n : Nat) (τ : Sg) (y4 : Int32) (y5 : Int32) (y6 : Int32), Inv τ → Fr MS_X12_two AS_X12_two σ τ → IV a1 0 6 → IV a2 0 6 → IV a3 0 1 → IV y4 0 16 → IV y5 (-2147483648) 2147483647 → IV y6 0 10 → (10 - y6.toInt).toNat < n → MW p l e { frames := 4, cells := 0, slots := 0, locals := 92 } s m args below meth c (MQ below (QP G (PI fun r τ => Inv τ ∧ Fr MS_X12_two AS_X12_two σ τ ∧ IV r (-2147483648) 2147483647)) args s 0 0 (aG G)) 8 G 0 0 67 [some (.ref (G.1 22 0)), some (.int a1), some (.int a2), some (.int a3), some (.int y4), some (.int y5), some (.int y6), none] [] τ := by
    intro n
    induction n with
    | zero => intro τ y4 y5 y6 iτ fτ b_a1 b_a2 b_a3 b_y4 b_y5 b_y6 hm; exact absurd hm (Nat.not_lt_zero _)
    | succ n ih67 =>
      intro τ y4 y5 y6 iτ fτ b_a1 b_a2 b_a3 b_y4 b_y5 b_y6 hm67
      have J132 : ∀ (τ : Sg) (y7 : Int32) (z0 : Int32), Inv τ → Fr MS_X12_two AS_X12_two σ τ → IV a1 0 6 → IV a2 0 6 → IV a3 0 1 → IV y5 (-2147483648) 2147483647 → IV y6 0 9 → IV y7 (-2147483648) 2147483647 → IV z0 0 16 → MW p l e { frames := 4, cells := 0, slots := 0, locals := 92 } s m args below meth c (MQ below (QP G (PI fun r τ => Inv τ ∧ Fr MS_X12_two AS_X12_two σ τ ∧ IV r (-2147483648) 2147483647)) args s 0 0 (aG G)) 8 G 0 0 132 [some (.ref (G.1 22 0)), some (.int a1), some (.int a2), some (.int a3), none, some (.int y5), some (.int y6), some (.int y7)] [.int z0] τ := by
        intro τ y7 z0 iτ fτ b_a1 b_a2 b_a3 b_y5 b_y6 b_y7 b_z0
        refine m_istore (L1 := [some (.ref (G.1 22 0)), some (.int a1), some (.int a2), some (.int a3), some (.int z0), some (.int y5), some (.int y6), some (.int y7)]) C dX12_two_132 (by decide) rfl rfl ?_
        refine m_iload C dX12_two_134 rfl ?_
        refine m_if_eq (tgt := 146) C dX12_two_136 (by decide) (fun c1 => ?_) (fun c1 => ?_)
        · have f2 : y6.toInt = 0 := by
            have q : _ := c1
            simp only [ti_nle, ti_nlt, ti_le, ti_lt, ti_eq, ti_ne, Classical.not_not, kt_0] at q
            omega
          have b3 : IV y6 0 0 := ⟨by have q1 := b_y6; have q2 := kc_0; omega, by have q1 := b_y6; have q2 := kc_0; omega⟩
          refine m_iload C dX12_two_146 rfl ?_
          refine m_goto (tgt := 153) C dX12_two_148 (by decide) ?_
          refine m_istore (L1 := [some (.ref (G.1 22 0)), some (.int a1), some (.int a2), some (.int a3), some (.int z0), some (.int y7), some (.int y6), some (.int y7)]) C dX12_two_153 (by decide) rfl rfl ?_
          obtain ⟨x4, ex4⟩ : ∃ y : Int32, y = y6 + 1 := ⟨_, rfl⟩
          have tx4 : x4.toInt = y6.toInt + 1 := by rw [ex4, ti_addv b3 kc_1 (by decide), kt_1]
          have b5 : IV x4 1 1 := by rw [ex4]; exact iv_add b3 kc_1 (by decide)
          refine m_iinc (v := x4) (L1 := [some (.ref (G.1 22 0)), some (.int a1), some (.int a2), some (.int a3), some (.int z0), some (.int y7), some (.int x4), some (.int y7)]) C dX12_two_155 rfl (by rw [ex4]; rfl) (by decide) rfl rfl ?_
          refine m_goto (tgt := 67) C dX12_two_158 (by decide) ?_
          refine m_sub (L1 := [some (.ref (G.1 22 0)), some (.int a1), some (.int a2), some (.int a3), some (.int z0), some (.int y7), some (.int x4), none]) ⟨rfl, ⟨rfl, ⟨rfl, ⟨rfl, ⟨rfl, ⟨rfl, ⟨rfl, trivial⟩⟩⟩⟩⟩⟩⟩ ?_
          exact ih67 τ z0 y7 x4 iτ fτ b_a1 b_a2 b_a3 b_z0 b_y7 (iv_wk b5 (by decide)) (by have q := hm67; omega)
        · have f6 : y6.toInt ≠ 0 := by
            have q : _ := c1
            simp only [ti_nle, ti_nlt, ti_le, ti_lt, ti_eq, ti_ne, Classical.not_not, kt_0] at q
            omega
          have b7 : IV y6 1 9 := ⟨by have q1 := b_y6; have q2 := kc_0; omega, by have q1 := b_y6; have q2 := kc_0; omega⟩
          refine m_iload C dX12_two_139 rfl ?_
          refine m_iload C dX12_two_141 rfl ?_
          refine m_icmp_ge (tgt := 151) C dX12_two_143 (by decide) (fun c8 => ?_) (fun c8 => ?_)
          · have f9 : y5.toInt ≤ y7.toInt := by
              have q : _ := c8
              simp only [ti_nle, ti_nlt, ti_le, ti_lt, ti_eq, ti_ne, Classical.not_not] at q
              omega
            refine m_iload C dX12_two_151 rfl ?_
            refine m_istore (L1 := [some (.ref (G.1 22 0)), some (.int a1), some (.int a2), some (.int a3), some (.int z0), some (.int y5), some (.int y6), some (.int y7)]) C dX12_two_153 (by decide) rfl rfl ?_
            obtain ⟨x10, ex10⟩ : ∃ y : Int32, y = y6 + 1 := ⟨_, rfl⟩
            have tx10 : x10.toInt = y6.toInt + 1 := by rw [ex10, ti_addv b7 kc_1 (by decide), kt_1]
            have b11 : IV x10 2 10 := by rw [ex10]; exact iv_add b7 kc_1 (by decide)
            refine m_iinc (v := x10) (L1 := [some (.ref (G.1 22 0)), some (.int a1), some (.int a2), some (.int a3), some (.int z0), some (.int y5), some (.int x10), some (.int y7)]) C dX12_two_155 rfl (by rw [ex10]; rfl) (by decide) rfl rfl ?_
            refine m_goto (tgt := 67) C dX12_two_158 (by decide) ?_
            refine m_sub (L1 := [some (.ref (G.1 22 0)), some (.int a1), some (.int a2), some (.int a3), some (.int z0), some (.int y5), some (.int x10), none]) ⟨rfl, ⟨rfl, ⟨rfl, ⟨rfl, ⟨rfl, ⟨rfl, ⟨rfl, trivial⟩⟩⟩⟩⟩⟩⟩ ?_
            exact ih67 τ z0 y5 x10 iτ fτ b_a1 b_a2 b_a3 b_z0 b_y5 (iv_wk b11 (by decide)) (by have q := hm67; omega)
          · have f12 : y7.toInt < y5.toInt := by
              have q : _ := c8
              simp only [ti_nle, ti_nlt, ti_le, ti_lt, ti_eq, ti_ne, Classical.not_not] at q
              omega
            have b13 : IV y7 (-2147483648) 2147483646 := ⟨by have q1 := b_y7; have q2 := b_y5; omega, by have q1 := b_y7; have q2 := b_y5; omega⟩
            have b14 : IV y5 (-2147483647) 2147483647 := ⟨by have q1 := b_y7; have q2 := b_y5; omega, by have q1 := b_y7; have q2 := b_y5; omega⟩
            refine m_iload C dX12_two_146 rfl ?_
            refine m_goto (tgt := 153) C dX12_two_148 (by decide) ?_
            refine m_istore (L1 := [some (.ref (G.1 22 0)), some (.int a1), some (.int a2), some (.int a3), some (.int z0), some (.int y7), some (.int y6), some (.int y7)]) C dX12_two_153 (by decide) rfl rfl ?_
            obtain ⟨x15, ex15⟩ : ∃ y : Int32, y = y6 + 1 := ⟨_, rfl⟩
            have tx15 : x15.toInt = y6.toInt + 1 := by rw [ex15, ti_addv b7 kc_1 (by decide), kt_1]
            have b16 : IV x15 2 10 := by rw [ex15]; exact iv_add b7 kc_1 (by decide)
            refine m_iinc (v := x15) (L1 := [some (.ref (G.1 22 0)), some (.int a1), some (.int a2), some (.int a3), some (.int z0), some (.int y7), some (.int x15), some (.int y7)]) C dX12_two_155 rfl (by rw [ex15]; rfl) (by decide) rfl rfl ?_
            refine m_goto (tgt := 67) C dX12_two_158 (by decide) ?_
            refine m_sub (L1 := [some (.ref (G.1 22 0)), some (.int a1), some (.int a2), some (.int a3), some (.int z0), some (.int y7), some (.int x15), none]) ⟨rfl, ⟨rfl, ⟨rfl, ⟨rfl, ⟨rfl, ⟨rfl, ⟨rfl, trivial⟩⟩⟩⟩⟩⟩⟩ ?_
            exact ih67 τ z0 y7 x15 iτ fτ b_a1 b_a2 b_a3 b_z0 (iv_wk b13 (by decide)) (iv_wk b16 (by decide)) (by have q := hm67; omega)
      refine m_iload C dX12_two_67 rfl ?_
      refine m_bipush (v := 10) C dX12_two_69 (by decide) ?_
      refine m_icmp_ge (tgt := 161) C dX12_two_71 (by decide) (fun c17 => ?_) (fun c17 => ?_)
      · have f18 : 10 ≤ y6.toInt := by
          have q : _ := c17
          simp only [ti_nle, ti_nlt, ti_le, ti_lt, ti_eq, ti_ne, Classical.not_not, kt_10] at q
          omega
        have b19 : IV y6 10 10 := ⟨by have q1 := kc_10; have q2 := b_y6; omega, by have q1 := kc_10; have q2 := b_y6; omega⟩
        refine m_iload_n C dX12_two_161 rfl rfl ?_
        refine m_if_ne (tgt := 170) C dX12_two_162 (by decide) (fun c20 => ?_) (fun c20 => ?_)
        · have f21 : a3.toInt ≠ 0 := by
            have q : _ := c20
            simp only [ti_nle, ti_nlt, ti_le, ti_lt, ti_eq, ti_ne, Classical.not_not, kt_0] at q
            omega
          have b22 : IV a3 1 1 := ⟨by have q1 := b_a3; have q2 := kc_0; omega, by have q1 := b_a3; have q2 := kc_0; omega⟩
          refine m_iload C dX12_two_170 rfl ?_
          exact m_iret C hr hlk (by decide) (by decide) dX12_two_172 ⟨_, rfl, iτ, fτ, b_y5⟩
        · have f23 : a3.toInt = 0 := by
            have q : _ := c20
            simp only [ti_nle, ti_nlt, ti_le, ti_lt, ti_eq, ti_ne, Classical.not_not, kt_0] at q
            omega
          have b24 : IV a3 0 0 := ⟨by have q1 := b_a3; have q2 := kc_0; omega, by have q1 := b_a3; have q2 := kc_0; omega⟩
          refine m_iload C dX12_two_165 rfl ?_
          refine m_goto (tgt := 172) C dX12_two_167 (by decide) ?_
          exact m_iret C hr hlk (by decide) (by decide) dX12_two_172 ⟨_, rfl, iτ, fτ, (iv_wk b_y4 (by decide))⟩
      · have f25 : y6.toInt < 10 := by
          have q : _ := c17
          simp only [ti_nle, ti_nlt, ti_le, ti_lt, ti_eq, ti_ne, Classical.not_not, kt_10] at q
          omega
        have b26 : IV y6 0 9 := ⟨by have q1 := b_y6; have q2 := kc_10; omega, by have q1 := b_y6; have q2 := kc_10; omega⟩
        refine m_aload_n C dX12_two_74 rfl rfl ?_
        refine m_iconst (v := 0) C dX12_two_75 (by decide) ?_
        refine m_sipush (v := 200) C dX12_two_76 (by decide) ?_
        have q27 := kt_0
        have q28 := kt_200
        refine m_callV (n := 2) (ci := 11) (st := []) C (c_X12_copyAll l G τ (0) (200) iτ (iv_wk kc_0 (by decide)) (iv_wk kc_200 (by decide)) (by omega) (by omega) (by omega) (Or.inl (by omega))) (by decide) (by decide) rfl rfl rfl q5_38 q5_35 q5_37 q0_35 q1_7 (by decide +kernel) rfl (by decide) (by decide) rfl (Nat.le_of_ble_eq_true rfl) dX12_two_79 ?_
        rintro _ τ29 ⟨rfl, i30, f31, h35⟩
        have g34 : Fr MS_X12_two AS_X12_two σ τ29 := Fr.call (fτ) f31 (by decide)
        show MW p l e _ s m args below meth c _ 8 G 0 0 82 [some (.ref (G.1 22 0)), some (.int a1), some (.int a2), some (.int a3), some (.int y4), some (.int y5), some (.int y6), none] [] τ29
        refine m_aload_n C dX12_two_82 rfl rfl ?_
        refine g_22_0 C q4_116 dX12_two_83 ?_
        refine m_sipush (v := 231) C dX12_two_86 (by decide) ?_
        refine m_iload_n C dX12_two_89 rfl rfl ?_
        refine m_iadd C dX12_two_90 ?_
        refine m_topi (fun x36 ex36 => ?_)
        have tx36 : x36.toInt = 231 + a1.toInt := by rw [ex36, ti_addv kc_231 b_a1 (by decide), kt_231]
        have b37 : IV x36 231 237 := by rw [ex36]; exact iv_add kc_231 b_a1 (by decide)
        refine m_iconst (v := 1) C dX12_two_91 (by decide) ?_
        refine as_23 C b37 (by decide) rfl dX12_two_92 ?_
        refine m_tops (fun τ38 eτ38 => ?_)
        have i39 : Inv τ38 := eτ38 ▸ Inv.putW i30 (by omega)
        have f40 : Fr MS_X12_two AS_X12_two σ τ38 := eτ38 ▸ Fr.put (g34) (Or.inr (by decide))
        refine m_aload_n C dX12_two_93 rfl rfl ?_
        refine g_22_0 C q4_116 dX12_two_94 ?_
        refine m_sipush (v := 231) C dX12_two_97 (by decide) ?_
        refine m_iload_n C dX12_two_100 rfl rfl ?_
        refine m_iadd C dX12_two_101 ?_
        refine m_topi (fun x41 ex41 => ?_)
        have tx41 : x41.toInt = 231 + a2.toInt := by rw [ex41, ti_addv kc_231 b_a2 (by decide), kt_231]
        have b42 : IV x41 231 237 := by rw [ex41]; exact iv_add kc_231 b_a2 (by decide)
        refine m_iconst (v := 0) C dX12_two_102 (by decide) ?_
        refine as_23 C b42 (by decide) rfl dX12_two_103 ?_
        refine m_tops (fun τ43 eτ43 => ?_)
        have i44 : Inv τ43 := eτ43 ▸ Inv.putW i39 (by omega)
        have f45 : Fr MS_X12_two AS_X12_two σ τ43 := eτ43 ▸ Fr.put (f40) (Or.inr (by decide))
        refine m_aload_n C dX12_two_104 rfl rfl ?_
        refine m_iload_n C dX12_two_105 rfl rfl ?_
        refine m_iload C dX12_two_106 rfl ?_
        refine m_callV (n := 2) (ci := 11) (st := []) C (c_X12_foretell l G τ43 (a2) (y6) i44 (iv_wk b_a2 (by decide))) (by decide) (by decide) rfl rfl rfl q5_132 q5_129 q5_131 q0_46 q1_7 (by decide +kernel) rfl (by decide) (by decide) rfl (Nat.le_of_ble_eq_true rfl) dX12_two_108 ?_
        rintro _ τ46 ⟨x49, rfl, i47, f48, b50⟩
        have g51 : Fr MS_X12_two AS_X12_two σ τ46 := Fr.call (f45) f48 (by decide)
        show MW p l e _ s m args below meth c _ 8 G 0 0 111 [some (.ref (G.1 22 0)), some (.int a1), some (.int a2), some (.int a3), some (.int y4), some (.int y5), some (.int y6), none] [.int x49] τ46
        refine m_istore (L1 := [some (.ref (G.1 22 0)), some (.int a1), some (.int a2), some (.int a3), some (.int y4), some (.int y5), some (.int y6), some (.int x49)]) C dX12_two_111 (by decide) rfl rfl ?_
        refine m_iload C dX12_two_113 rfl ?_
        refine m_if_eq (tgt := 125) C dX12_two_115 (by decide) (fun c53 => ?_) (fun c53 => ?_)
        · have f54 : y6.toInt = 0 := by
            have q : _ := c53
            simp only [ti_nle, ti_nlt, ti_le, ti_lt, ti_eq, ti_ne, Classical.not_not, kt_0] at q
            omega
          have b55 : IV y6 0 0 := ⟨by have q1 := b26; have q2 := kc_0; omega, by have q1 := b26; have q2 := kc_0; omega⟩
          refine m_iload C dX12_two_125 rfl ?_
          refine m_goto (tgt := 132) C dX12_two_127 (by decide) ?_
          refine m_sub (L1 := [some (.ref (G.1 22 0)), some (.int a1), some (.int a2), some (.int a3), none, some (.int y5), some (.int y6), some (.int x49)]) ⟨rfl, ⟨rfl, ⟨rfl, ⟨rfl, ⟨rfl, ⟨rfl, ⟨rfl, trivial⟩⟩⟩⟩⟩⟩⟩ ?_
          exact J132 τ46 x49 y6 i47 g51 b_a1 b_a2 b_a3 b_y5 (iv_wk b55 (by decide)) b50 (iv_wk b55 (by decide))
        · have f56 : y6.toInt ≠ 0 := by
            have q : _ := c53
            simp only [ti_nle, ti_nlt, ti_le, ti_lt, ti_eq, ti_ne, Classical.not_not, kt_0] at q
            omega
          have b57 : IV y6 1 9 := ⟨by have q1 := b26; have q2 := kc_0; omega, by have q1 := b26; have q2 := kc_0; omega⟩
          refine m_iload C dX12_two_118 rfl ?_
          refine m_iload C dX12_two_120 rfl ?_
          refine m_icmp_ge (tgt := 130) C dX12_two_122 (by decide) (fun c58 => ?_) (fun c58 => ?_)
          · have f59 : y5.toInt ≤ x49.toInt := by
              have q : _ := c58
              simp only [ti_nle, ti_nlt, ti_le, ti_lt, ti_eq, ti_ne, Classical.not_not] at q
              omega
            refine m_iload C dX12_two_130 rfl ?_
            refine m_sub (L1 := [some (.ref (G.1 22 0)), some (.int a1), some (.int a2), some (.int a3), none, some (.int y5), some (.int y6), some (.int x49)]) ⟨rfl, ⟨rfl, ⟨rfl, ⟨rfl, ⟨rfl, ⟨rfl, ⟨rfl, trivial⟩⟩⟩⟩⟩⟩⟩ ?_
            exact J132 τ46 x49 y4 i47 g51 b_a1 b_a2 b_a3 b_y5 (iv_wk b57 (by decide)) b50 b_y4
          · have f60 : x49.toInt < y5.toInt := by
              have q : _ := c58
              simp only [ti_nle, ti_nlt, ti_le, ti_lt, ti_eq, ti_ne, Classical.not_not] at q
              omega
            have b61 : IV x49 (-2147483648) 2147483646 := ⟨by have q1 := b50; have q2 := b_y5; omega, by have q1 := b50; have q2 := b_y5; omega⟩
            have b62 : IV y5 (-2147483647) 2147483647 := ⟨by have q1 := b50; have q2 := b_y5; omega, by have q1 := b50; have q2 := b_y5; omega⟩
            refine m_iload C dX12_two_125 rfl ?_
            refine m_goto (tgt := 132) C dX12_two_127 (by decide) ?_
            refine m_sub (L1 := [some (.ref (G.1 22 0)), some (.int a1), some (.int a2), some (.int a3), none, some (.int y5), some (.int y6), some (.int x49)]) ⟨rfl, ⟨rfl, ⟨rfl, ⟨rfl, ⟨rfl, ⟨rfl, ⟨rfl, trivial⟩⟩⟩⟩⟩⟩⟩ ?_
            exact J132 τ46 x49 y6 i47 g51 b_a1 b_a2 b_a3 (iv_wk b62 (by decide)) (iv_wk b57 (by decide)) (iv_wk b61 (by decide)) (iv_wk b57 (by decide))
  refine m_aload_n C dX12_two_0 rfl rfl ?_
  refine m_iload_n C dX12_two_1 rfl rfl ?_
  refine m_callV (n := 1) (ci := 11) (st := []) C (c_X12_isOne l G σ (a1) hI ) (by decide) (by decide) rfl rfl rfl q5_50 q5_47 q5_49 q0_36 q1_7 (by decide +kernel) rfl (by decide) (by decide) rfl (Nat.le_of_ble_eq_true rfl) dX12_two_2 ?_
  rintro _ τ63 ⟨x66, rfl, i64, f65, b67, h69⟩
  have g68 : Fr MS_X12_two AS_X12_two σ τ63 := Fr.call (Fr.rf) f65 (by decide)
  show MW p l e _ s m args below meth c _ 8 G 0 0 5 [some (.ref (G.1 22 0)), some (.int a1), some (.int a2), some (.int a3), none, none, none, none] [.int x66] τ63
  refine m_if_eq (tgt := 55) C dX12_two_5 (by decide) (fun c70 => ?_) (fun c70 => ?_)
  · have f71 : x66.toInt = 0 := by
      have q : _ := c70
      simp only [ti_nle, ti_nlt, ti_le, ti_lt, ti_eq, ti_ne, Classical.not_not, kt_0] at q
      omega
    have b72 : IV x66 0 0 := ⟨by have q1 := b67; have q2 := kc_0; omega, by have q1 := b67; have q2 := kc_0; omega⟩
    refine m_ldc (v := (-1000001)) C dX12_two_55 q4_192 ?_
    exact m_iret C hr hlk (by decide) (by decide) dX12_two_57 ⟨_, rfl, i64, g68, (iv_wk kc_m1000001 (by decide))⟩
  · have f73 : x66.toInt ≠ 0 := by
      have q : _ := c70
      simp only [ti_nle, ti_nlt, ti_le, ti_lt, ti_eq, ti_ne, Classical.not_not, kt_0] at q
      omega
    have b74 : IV x66 1 1 := ⟨by have q1 := b67; have q2 := kc_0; omega, by have q1 := b67; have q2 := kc_0; omega⟩
    have b75 : IV a1 0 6 := ⟨by have q1 := (iv_any a1); omega, by have q1 := (iv_any a1); omega⟩
    refine m_aload_n C dX12_two_8 rfl rfl ?_
    refine m_iload_n C dX12_two_9 rfl rfl ?_
    refine m_callV (n := 1) (ci := 11) (st := []) C (c_X12_isOne l G τ63 (a2) i64 ) (by decide) (by decide) rfl rfl rfl q5_50 q5_47 q5_49 q0_36 q1_7 (by decide +kernel) rfl (by decide) (by decide) rfl (Nat.le_of_ble_eq_true rfl) dX12_two_10 ?_
    rintro _ τ76 ⟨x79, rfl, i77, f78, b80, h82⟩
    have g81 : Fr MS_X12_two AS_X12_two σ τ76 := Fr.call (g68) f78 (by decide)
    show MW p l e _ s m args below meth c _ 8 G 0 0 13 [some (.ref (G.1 22 0)), some (.int a1), some (.int a2), some (.int a3), none, none, none, none] [.int x79] τ76
    refine m_if_eq (tgt := 55) C dX12_two_13 (by decide) (fun c83 => ?_) (fun c83 => ?_)
    · have f84 : x79.toInt = 0 := by
        have q : _ := c83
        simp only [ti_nle, ti_nlt, ti_le, ti_lt, ti_eq, ti_ne, Classical.not_not, kt_0] at q
        omega
      have b85 : IV x79 0 0 := ⟨by have q1 := b80; have q2 := kc_0; omega, by have q1 := b80; have q2 := kc_0; omega⟩
      refine m_ldc (v := (-1000001)) C dX12_two_55 q4_192 ?_
      exact m_iret C hr hlk (by decide) (by decide) dX12_two_57 ⟨_, rfl, i77, g81, (iv_wk kc_m1000001 (by decide))⟩
    · have f86 : x79.toInt ≠ 0 := by
        have q : _ := c83
        simp only [ti_nle, ti_nlt, ti_le, ti_lt, ti_eq, ti_ne, Classical.not_not, kt_0] at q
        omega
      have b87 : IV x79 1 1 := ⟨by have q1 := b80; have q2 := kc_0; omega, by have q1 := b80; have q2 := kc_0; omega⟩
      have b88 : IV a2 0 6 := ⟨by have q1 := (iv_any a2); omega, by have q1 := (iv_any a2); omega⟩
      refine m_iload_n C dX12_two_16 rfl rfl ?_
      refine m_iload_n C dX12_two_17 rfl rfl ?_
      refine m_icmp_eq (tgt := 55) C dX12_two_18 (by decide) (fun c89 => ?_) (fun c89 => ?_)
      · have f90 : a1.toInt = a2.toInt := by
          have q : _ := c89
          simp only [ti_nle, ti_nlt, ti_le, ti_lt, ti_eq, ti_ne, Classical.not_not] at q
          omega
        refine m_ldc (v := (-1000001)) C dX12_two_55 q4_192 ?_
        exact m_iret C hr hlk (by decide) (by decide) dX12_two_57 ⟨_, rfl, i77, g81, (iv_wk kc_m1000001 (by decide))⟩
      · have f91 : a1.toInt ≠ a2.toInt := by
          have q : _ := c89
          simp only [ti_nle, ti_nlt, ti_le, ti_lt, ti_eq, ti_ne, Classical.not_not] at q
          omega
        refine m_aload_n C dX12_two_21 rfl rfl ?_
        refine g_22_0 C q4_116 dX12_two_22 ?_
        refine m_bipush (v := 24) C dX12_two_25 (by decide) ?_
        refine m_iload_n C dX12_two_27 rfl rfl ?_
        refine m_iadd C dX12_two_28 ?_
        refine m_topi (fun x92 ex92 => ?_)
        have tx92 : x92.toInt = 24 + a1.toInt := by rw [ex92, ti_addv kc_24 b75 (by decide), kt_24]
        have b93 : IV x92 24 30 := by rw [ex92]; exact iv_add kc_24 b75 (by decide)
        refine al_23 C b93 (by decide) rfl dX12_two_29 ?_
        refine m_topi (fun x94 ex94 => ?_)
        refine m_if_ge (tgt := 55) C dX12_two_30 (by decide) (fun c95 => ?_) (fun c95 => ?_)
        · have f96 : 0 ≤ x94.toInt := by
            have q : _ := c95
            simp only [ti_nle, ti_nlt, ti_le, ti_lt, ti_eq, ti_ne, Classical.not_not, kt_0] at q
            omega
          have b97 : IV x94 0 2147483647 := ⟨by have q1 := kc_0; have q2 := (iv_any x94); omega, by have q1 := kc_0; have q2 := (iv_any x94); omega⟩
          refine m_ldc (v := (-1000001)) C dX12_two_55 q4_192 ?_
          exact m_iret C hr hlk (by decide) (by decide) dX12_two_57 ⟨_, rfl, i77, g81, (iv_wk kc_m1000001 (by decide))⟩
        · have f98 : x94.toInt < 0 := by
            have q : _ := c95
            simp only [ti_nle, ti_nlt, ti_le, ti_lt, ti_eq, ti_ne, Classical.not_not, kt_0] at q
            omega
          have b99 : IV x94 (-2147483648) (-1) := ⟨by have q1 := (iv_any x94); have q2 := kc_0; omega, by have q1 := (iv_any x94); have q2 := kc_0; omega⟩
          refine m_aload_n C dX12_two_33 rfl rfl ?_
          refine g_22_0 C q4_116 dX12_two_34 ?_
          refine m_bipush (v := 24) C dX12_two_37 (by decide) ?_
          refine m_iload_n C dX12_two_39 rfl rfl ?_
          refine m_iadd C dX12_two_40 ?_
          refine m_topi (fun x100 ex100 => ?_)
          have tx100 : x100.toInt = 24 + a2.toInt := by rw [ex100, ti_addv kc_24 b88 (by decide), kt_24]
          have b101 : IV x100 24 30 := by rw [ex100]; exact iv_add kc_24 b88 (by decide)
          refine al_23 C b101 (by decide) rfl dX12_two_41 ?_
          refine m_topi (fun x102 ex102 => ?_)
          refine m_if_ge (tgt := 55) C dX12_two_42 (by decide) (fun c103 => ?_) (fun c103 => ?_)
          · have f104 : 0 ≤ x102.toInt := by
              have q : _ := c103
              simp only [ti_nle, ti_nlt, ti_le, ti_lt, ti_eq, ti_ne, Classical.not_not, kt_0] at q
              omega
            have b105 : IV x102 0 2147483647 := ⟨by have q1 := kc_0; have q2 := (iv_any x102); omega, by have q1 := kc_0; have q2 := (iv_any x102); omega⟩
            refine m_ldc (v := (-1000001)) C dX12_two_55 q4_192 ?_
            exact m_iret C hr hlk (by decide) (by decide) dX12_two_57 ⟨_, rfl, i77, g81, (iv_wk kc_m1000001 (by decide))⟩
          · have f106 : x102.toInt < 0 := by
              have q : _ := c103
              simp only [ti_nle, ti_nlt, ti_le, ti_lt, ti_eq, ti_ne, Classical.not_not, kt_0] at q
              omega
            have b107 : IV x102 (-2147483648) (-1) := ⟨by have q1 := (iv_any x102); have q2 := kc_0; omega, by have q1 := (iv_any x102); have q2 := kc_0; omega⟩
            refine m_iload_n C dX12_two_45 rfl rfl ?_
            refine m_i2l C dX12_two_46 ?_
            refine m_lconst (v := 0) C dX12_two_47 (by decide) ?_
            refine m_lconst (v := 1) C dX12_two_48 (by decide) ?_
            refine m_callS (n := 3) (st := []) C (c_X12_in l G τ76 ((a3 : Int32).toInt64) (0) (1) i77 ) q4_190 q4_188 q4_189 q1_7 (by decide +kernel) rfl (by decide) (by decide) rfl (Nat.le_of_ble_eq_true rfl) dX12_two_49 ?_
            rintro _ τ108 ⟨x111, rfl, i109, f110, b112, h114⟩
            have g113 : Fr MS_X12_two AS_X12_two σ τ108 := Fr.call (g81) f110 (by decide)
            have f115 := tl_i a3
            have f116 := kl_0
            have f117 := kl_1
            show MW p l e _ s m args below meth c _ 8 G 0 0 52 [some (.ref (G.1 22 0)), some (.int a1), some (.int a2), some (.int a3), none, none, none, none] [.int x111] τ108
            refine m_if_ne (tgt := 58) C dX12_two_52 (by decide) (fun c118 => ?_) (fun c118 => ?_)
            · have f119 : x111.toInt ≠ 0 := by
                have q : _ := c118
                simp only [ti_nle, ti_nlt, ti_le, ti_lt, ti_eq, ti_ne, Classical.not_not, kt_0] at q
                omega
              have b120 : IV x111 1 1 := ⟨by have q1 := b112; have q2 := kc_0; omega, by have q1 := b112; have q2 := kc_0; omega⟩
              have b121 : IV a3 0 1 := ⟨by have q1 := (iv_any a3); omega, by have q1 := (iv_any a3); omega⟩
              refine m_iconst (v := 0) C dX12_two_58 (by decide) ?_
              refine m_istore (L1 := [some (.ref (G.1 22 0)), some (.int a1), some (.int a2), some (.int a3), some (.int 0), none, none, none]) C dX12_two_59 (by decide) rfl rfl ?_
              refine m_iconst (v := 0) C dX12_two_61 (by decide) ?_
              refine m_istore (L1 := [some (.ref (G.1 22 0)), some (.int a1), some (.int a2), some (.int a3), some (.int 0), some (.int 0), none, none]) C dX12_two_62 (by decide) rfl rfl ?_
              refine m_iconst (v := 0) C dX12_two_64 (by decide) ?_
              refine m_istore (L1 := [some (.ref (G.1 22 0)), some (.int a1), some (.int a2), some (.int a3), some (.int 0), some (.int 0), some (.int 0), none]) C dX12_two_65 (by decide) rfl rfl ?_
              exact J67 ((10 - (0 : Int32).toInt).toNat + 1) τ108 0 0 0 i109 g113 b75 b88 b121 (iv_wk kc_0 (by decide)) (iv_wk kc_0 (by decide)) (iv_wk kc_0 (by decide)) (Nat.lt_succ_self _)
            · have f122 : x111.toInt = 0 := by
                have q : _ := c118
                simp only [ti_nle, ti_nlt, ti_le, ti_lt, ti_eq, ti_ne, Classical.not_not, kt_0] at q
                omega
              have b123 : IV x111 0 0 := ⟨by have q1 := b112; have q2 := kc_0; omega, by have q1 := b112; have q2 := kc_0; omega⟩
              refine m_ldc (v := (-1000001)) C dX12_two_55 q4_192 ?_
              exact m_iret C hr hlk (by decide) (by decide) dX12_two_57 ⟨_, rfl, i109, g113, (iv_wk kc_m1000001 (by decide))⟩

abbrev MS_X12_stones : List (Nat × Nat) := [(22, 17)]
abbrev AS_X12_stones : List Nat := [23]
set_option maxHeartbeats 4000000 in
set_option maxRecDepth 100000 in
theorem c_X12_stones (l : Launch) (G : Gt) (σ : Sg) (a1 : Int32) (hI : Inv σ) : Mc l G yX12_stones cX12_stones 7 (some .int) 4 92 0 0 [.ref (G.1 22 0), .int a1] σ (PI fun r τ => Inv τ ∧ Fr MS_X12_stones AS_X12_stones σ τ ∧ IV r (-2147483648) 2147483647) := by
  refine Mc.of (L0 := [some (.ref (G.1 22 0)), some (.int a1), none, none, none, none, none]) (by decide) (Nat.le_of_ble_eq_true rfl) rfl ?_
  intro p e s m args below meth c C hr hlk
  have C : Cx p s m args c cX12_stones 7 "LeanTowerModel" := C
  have k0 : (0 : Int32).toInt = 0 := by decide
  have k1 : (1 : Int32).toInt = 1 := by decide
  have J44 : ∀ (n : Nat) (τ : Sg) (y2 : Int32) (y3 : Int32) (y4 : Int32) (y5 : Int32), Inv τ → Fr MS_X12_stones AS_X12_stones σ τ → IV a1 (-1) 3 → IV y2 0 4 → IV y3 0 256 → IV y4 (-2147483648) 2147483647 → IV y5 0 257 → (257 - y5.toInt).toNat < n → MW p l e { frames := 4, cells := 0, slots := 0, locals := 92 } s m args below meth c (MQ below (QP G (PI fun r τ => Inv τ ∧ Fr MS_X12_stones AS_X12_stones σ τ ∧ IV r (-2147483648) 2147483647)) args s 0 0 (aG G)) 7 G 0 0 44 [some (.ref (G.1 22 0)), some (.int a1), some (.int y2), some (.int y3), some (.int y4), some (.int y5), none] [] τ := by
    intro n
    induction n with
    | zero => intro τ y2 y3 y4 y5 iτ fτ b_a1 b_y2 b_y3 b_y4 b_y5 hm; exact absurd hm (Nat.not_lt_zero _)
    | succ n ih44 =>
      intro τ y2 y3 y4 y5 iτ fτ b_a1 b_y2 b_y3 b_y4 b_y5 hm44
      have J127 : ∀ (τ : Sg) (y6 : Int32) (z0 : Int32), Inv τ → Fr MS_X12_stones AS_X12_stones σ τ → IV a1 (-1) 3 → IV y2 0 4 → IV y4 (-2147483648) 2147483647 → IV y5 0 256 → IV y6 (-2147483648) 2147483647 → IV z0 0 256 → MW p l e { frames := 4, cells := 0, slots := 0, locals := 92 } s m args below meth c (MQ below (QP G (PI fun r τ => Inv τ ∧ Fr MS_X12_stones AS_X12_stones σ τ ∧ IV r (-2147483648) 2147483647)) args s 0 0 (aG G)) 7 G 0 0 127 [some (.ref (G.1 22 0)), some (.int a1), some (.int y2), none, some (.int y4), some (.int y5), some (.int y6)] [.int z0] τ := by
        intro τ y6 z0 iτ fτ b_a1 b_y2 b_y4 b_y5 b_y6 b_z0
        refine m_istore_n (L1 := [some (.ref (G.1 22 0)), some (.int a1), some (.int y2), some (.int z0), some (.int y4), some (.int y5), some (.int y6)]) C dX12_stones_127 rfl (by decide) rfl rfl ?_
        refine m_iload C dX12_stones_128 rfl ?_
        refine m_if_eq (tgt := 140) C dX12_stones_130 (by decide) (fun c1 => ?_) (fun c1 => ?_)
        · have f2 : y5.toInt = 0 := by
            have q : _ := c1
            simp only [ti_nle, ti_nlt, ti_le, ti_lt, ti_eq, ti_ne, Classical.not_not, kt_0] at q
            omega
          have b3 : IV y5 0 0 := ⟨by have q1 := b_y5; have q2 := kc_0; omega, by have q1 := b_y5; have q2 := kc_0; omega⟩
          refine m_iload C dX12_stones_140 rfl ?_
          refine m_goto (tgt := 147) C dX12_stones_142 (by decide) ?_
          refine m_istore (L1 := [some (.ref (G.1 22 0)), some (.int a1), some (.int y2), some (.int z0), some (.int y6), some (.int y5), some (.int y6)]) C dX12_stones_147 (by decide) rfl rfl ?_
          obtain ⟨x4, ex4⟩ : ∃ y : Int32, y = y5 + 1 := ⟨_, rfl⟩
          have tx4 : x4.toInt = y5.toInt + 1 := by rw [ex4, ti_addv b3 kc_1 (by decide), kt_1]
          have b5 : IV x4 1 1 := by rw [ex4]; exact iv_add b3 kc_1 (by decide)
          refine m_iinc (v := x4) (L1 := [some (.ref (G.1 22 0)), some (.int a1), some (.int y2), some (.int z0), some (.int y6), some (.int x4), some (.int y6)]) C dX12_stones_149 rfl (by rw [ex4]; rfl) (by decide) rfl rfl ?_
          refine m_goto (tgt := 44) C dX12_stones_152 (by decide) ?_
          refine m_sub (L1 := [some (.ref (G.1 22 0)), some (.int a1), some (.int y2), some (.int z0), some (.int y6), some (.int x4), none]) ⟨rfl, ⟨rfl, ⟨rfl, ⟨rfl, ⟨rfl, ⟨rfl, trivial⟩⟩⟩⟩⟩⟩ ?_
          exact ih44 τ y2 z0 y6 x4 iτ fτ b_a1 b_y2 b_z0 b_y6 (iv_wk b5 (by decide)) (by have q := hm44; omega)
        · have f6 : y5.toInt ≠ 0 := by
            have q : _ := c1
            simp only [ti_nle, ti_nlt, ti_le, ti_lt, ti_eq, ti_ne, Classical.not_not, kt_0] at q
            omega
          have b7 : IV y5 1 256 := ⟨by have q1 := b_y5; have q2 := kc_0; omega, by have q1 := b_y5; have q2 := kc_0; omega⟩
          refine m_iload C dX12_stones_133 rfl ?_
          refine m_iload C dX12_stones_135 rfl ?_
          refine m_icmp_ge (tgt := 145) C dX12_stones_137 (by decide) (fun c8 => ?_) (fun c8 => ?_)
          · have f9 : y4.toInt ≤ y6.toInt := by
              have q : _ := c8
              simp only [ti_nle, ti_nlt, ti_le, ti_lt, ti_eq, ti_ne, Classical.not_not] at q
              omega
            refine m_iload C dX12_stones_145 rfl ?_
            refine m_istore (L1 := [some (.ref (G.1 22 0)), some (.int a1), some (.int y2), some (.int z0), some (.int y4), some (.int y5), some (.int y6)]) C dX12_stones_147 (by decide) rfl rfl ?_
            obtain ⟨x10, ex10⟩ : ∃ y : Int32, y = y5 + 1 := ⟨_, rfl⟩
            have tx10 : x10.toInt = y5.toInt + 1 := by rw [ex10, ti_addv b7 kc_1 (by decide), kt_1]
            have b11 : IV x10 2 257 := by rw [ex10]; exact iv_add b7 kc_1 (by decide)
            refine m_iinc (v := x10) (L1 := [some (.ref (G.1 22 0)), some (.int a1), some (.int y2), some (.int z0), some (.int y4), some (.int x10), some (.int y6)]) C dX12_stones_149 rfl (by rw [ex10]; rfl) (by decide) rfl rfl ?_
            refine m_goto (tgt := 44) C dX12_stones_152 (by decide) ?_
            refine m_sub (L1 := [some (.ref (G.1 22 0)), some (.int a1), some (.int y2), some (.int z0), some (.int y4), some (.int x10), none]) ⟨rfl, ⟨rfl, ⟨rfl, ⟨rfl, ⟨rfl, ⟨rfl, trivial⟩⟩⟩⟩⟩⟩ ?_
            exact ih44 τ y2 z0 y4 x10 iτ fτ b_a1 b_y2 b_z0 b_y4 (iv_wk b11 (by decide)) (by have q := hm44; omega)
          · have f12 : y6.toInt < y4.toInt := by
              have q : _ := c8
              simp only [ti_nle, ti_nlt, ti_le, ti_lt, ti_eq, ti_ne, Classical.not_not] at q
              omega
            have b13 : IV y6 (-2147483648) 2147483646 := ⟨by have q1 := b_y6; have q2 := b_y4; omega, by have q1 := b_y6; have q2 := b_y4; omega⟩
            have b14 : IV y4 (-2147483647) 2147483647 := ⟨by have q1 := b_y6; have q2 := b_y4; omega, by have q1 := b_y6; have q2 := b_y4; omega⟩
            refine m_iload C dX12_stones_140 rfl ?_
            refine m_goto (tgt := 147) C dX12_stones_142 (by decide) ?_
            refine m_istore (L1 := [some (.ref (G.1 22 0)), some (.int a1), some (.int y2), some (.int z0), some (.int y6), some (.int y5), some (.int y6)]) C dX12_stones_147 (by decide) rfl rfl ?_
            obtain ⟨x15, ex15⟩ : ∃ y : Int32, y = y5 + 1 := ⟨_, rfl⟩
            have tx15 : x15.toInt = y5.toInt + 1 := by rw [ex15, ti_addv b7 kc_1 (by decide), kt_1]
            have b16 : IV x15 2 257 := by rw [ex15]; exact iv_add b7 kc_1 (by decide)
            refine m_iinc (v := x15) (L1 := [some (.ref (G.1 22 0)), some (.int a1), some (.int y2), some (.int z0), some (.int y6), some (.int x15), some (.int y6)]) C dX12_stones_149 rfl (by rw [ex15]; rfl) (by decide) rfl rfl ?_
            refine m_goto (tgt := 44) C dX12_stones_152 (by decide) ?_
            refine m_sub (L1 := [some (.ref (G.1 22 0)), some (.int a1), some (.int y2), some (.int z0), some (.int y6), some (.int x15), none]) ⟨rfl, ⟨rfl, ⟨rfl, ⟨rfl, ⟨rfl, ⟨rfl, trivial⟩⟩⟩⟩⟩⟩ ?_
            exact ih44 τ y2 z0 y6 x15 iτ fτ b_a1 b_y2 b_z0 (iv_wk b13 (by decide)) (iv_wk b16 (by decide)) (by have q := hm44; omega)
      have J65 : ∀ (n : Nat) (τ : Sg) (y6 : Int32), Inv τ → Fr MS_X12_stones AS_X12_stones σ τ → IV a1 (-1) 3 → IV y2 0 4 → IV y3 0 256 → IV y4 (-2147483648) 2147483647 → IV y5 0 256 → IV y6 0 4 → (4 - y6.toInt).toNat < n → MW p l e { frames := 4, cells := 0, slots := 0, locals := 92 } s m args below meth c (MQ below (QP G (PI fun r τ => Inv τ ∧ Fr MS_X12_stones AS_X12_stones σ τ ∧ IV r (-2147483648) 2147483647)) args s 0 0 (aG G)) 7 G 0 0 65 [some (.ref (G.1 22 0)), some (.int a1), some (.int y2), some (.int y3), some (.int y4), some (.int y5), some (.int y6)] [] τ := by
        intro n
        induction n with
        | zero => intro τ y6 iτ fτ b_a1 b_y2 b_y3 b_y4 b_y5 b_y6 hm; exact absurd hm (Nat.not_lt_zero _)
        | succ n ih65 =>
          intro τ y6 iτ fτ b_a1 b_y2 b_y3 b_y4 b_y5 b_y6 hm65
          refine m_iload C dX12_stones_65 rfl ?_
          refine m_iload_n C dX12_stones_67 rfl rfl ?_
          refine m_icmp_ge (tgt := 101) C dX12_stones_68 (by decide) (fun c17 => ?_) (fun c17 => ?_)
          · have f18 : y2.toInt ≤ y6.toInt := by
              have q : _ := c17
              simp only [ti_nle, ti_nlt, ti_le, ti_lt, ti_eq, ti_ne, Classical.not_not] at q
              omega
            refine m_aload_n C dX12_stones_101 rfl rfl ?_
            refine m_iconst (v := (-1)) C dX12_stones_102 (by decide) ?_
            refine m_iconst (v := 0) C dX12_stones_103 (by decide) ?_
            refine m_callV (n := 2) (ci := 11) (st := []) C (c_X12_foretell l G τ ((-1)) (0) iτ (iv_wk kc_m1 (by decide))) (by decide) (by decide) rfl rfl rfl q5_132 q5_129 q5_131 q0_46 q1_7 (by decide +kernel) rfl (by decide) (by decide) rfl (Nat.le_of_ble_eq_true rfl) dX12_stones_104 ?_
            rintro _ τ19 ⟨x22, rfl, i20, f21, b23⟩
            have g24 : Fr MS_X12_stones AS_X12_stones σ τ19 := Fr.call (fτ) f21 (by decide)
            show MW p l e _ s m args below meth c _ 7 G 0 0 107 [some (.ref (G.1 22 0)), some (.int a1), some (.int y2), some (.int y3), some (.int y4), some (.int y5), some (.int y6)] [.int x22] τ19
            refine m_istore (L1 := [some (.ref (G.1 22 0)), some (.int a1), some (.int y2), some (.int y3), some (.int y4), some (.int y5), some (.int x22)]) C dX12_stones_107 (by decide) rfl rfl ?_
            refine m_iload C dX12_stones_109 rfl ?_
            refine m_if_eq (tgt := 121) C dX12_stones_111 (by decide) (fun c26 => ?_) (fun c26 => ?_)
            · have f27 : y5.toInt = 0 := by
                have q : _ := c26
                simp only [ti_nle, ti_nlt, ti_le, ti_lt, ti_eq, ti_ne, Classical.not_not, kt_0] at q
                omega
              have b28 : IV y5 0 0 := ⟨by have q1 := b_y5; have q2 := kc_0; omega, by have q1 := b_y5; have q2 := kc_0; omega⟩
              refine m_iload C dX12_stones_121 rfl ?_
              refine m_goto (tgt := 127) C dX12_stones_123 (by decide) ?_
              refine m_sub (L1 := [some (.ref (G.1 22 0)), some (.int a1), some (.int y2), none, some (.int y4), some (.int y5), some (.int x22)]) ⟨rfl, ⟨rfl, ⟨rfl, ⟨rfl, ⟨rfl, ⟨rfl, trivial⟩⟩⟩⟩⟩⟩ ?_
              exact J127 τ19 x22 y5 i20 g24 b_a1 b_y2 b_y4 (iv_wk b28 (by decide)) b23 (iv_wk b28 (by decide))
            · have f29 : y5.toInt ≠ 0 := by
                have q : _ := c26
                simp only [ti_nle, ti_nlt, ti_le, ti_lt, ti_eq, ti_ne, Classical.not_not, kt_0] at q
                omega
              have b30 : IV y5 1 256 := ⟨by have q1 := b_y5; have q2 := kc_0; omega, by have q1 := b_y5; have q2 := kc_0; omega⟩
              refine m_iload C dX12_stones_114 rfl ?_
              refine m_iload C dX12_stones_116 rfl ?_
              refine m_icmp_ge (tgt := 126) C dX12_stones_118 (by decide) (fun c31 => ?_) (fun c31 => ?_)
              · have f32 : y4.toInt ≤ x22.toInt := by
                  have q : _ := c31
                  simp only [ti_nle, ti_nlt, ti_le, ti_lt, ti_eq, ti_ne, Classical.not_not] at q
                  omega
                refine m_iload_n C dX12_stones_126 rfl rfl ?_
                refine m_sub (L1 := [some (.ref (G.1 22 0)), some (.int a1), some (.int y2), none, some (.int y4), some (.int y5), some (.int x22)]) ⟨rfl, ⟨rfl, ⟨rfl, ⟨rfl, ⟨rfl, ⟨rfl, trivial⟩⟩⟩⟩⟩⟩ ?_
                exact J127 τ19 x22 y3 i20 g24 b_a1 b_y2 b_y4 (iv_wk b30 (by decide)) b23 b_y3
              · have f33 : x22.toInt < y4.toInt := by
                  have q : _ := c31
                  simp only [ti_nle, ti_nlt, ti_le, ti_lt, ti_eq, ti_ne, Classical.not_not] at q
                  omega
                have b34 : IV x22 (-2147483648) 2147483646 := ⟨by have q1 := b23; have q2 := b_y4; omega, by have q1 := b23; have q2 := b_y4; omega⟩
                have b35 : IV y4 (-2147483647) 2147483647 := ⟨by have q1 := b23; have q2 := b_y4; omega, by have q1 := b23; have q2 := b_y4; omega⟩
                refine m_iload C dX12_stones_121 rfl ?_
                refine m_goto (tgt := 127) C dX12_stones_123 (by decide) ?_
                refine m_sub (L1 := [some (.ref (G.1 22 0)), some (.int a1), some (.int y2), none, some (.int y4), some (.int y5), some (.int x22)]) ⟨rfl, ⟨rfl, ⟨rfl, ⟨rfl, ⟨rfl, ⟨rfl, trivial⟩⟩⟩⟩⟩⟩ ?_
                exact J127 τ19 x22 y5 i20 g24 b_a1 b_y2 (iv_wk b35 (by decide)) (iv_wk b30 (by decide)) (iv_wk b34 (by decide)) (iv_wk b30 (by decide))
          · have f36 : y6.toInt < y2.toInt := by
              have q : _ := c17
              simp only [ti_nle, ti_nlt, ti_le, ti_lt, ti_eq, ti_ne, Classical.not_not] at q
              omega
            have b37 : IV y6 0 3 := ⟨by have q1 := b_y6; have q2 := b_y2; omega, by have q1 := b_y6; have q2 := b_y2; omega⟩
            have b38 : IV y2 1 4 := ⟨by have q1 := b_y6; have q2 := b_y2; omega, by have q1 := b_y6; have q2 := b_y2; omega⟩
            refine m_aload_n C dX12_stones_71 rfl rfl ?_
            refine g_22_0 C q4_116 dX12_stones_72 ?_
            refine m_sipush (v := 243) C dX12_stones_75 (by decide) ?_
            refine m_iload C dX12_stones_78 rfl ?_
            refine m_iadd C dX12_stones_80 ?_
            refine m_topi (fun x39 ex39 => ?_)
            have tx39 : x39.toInt = 243 + y6.toInt := by rw [ex39, ti_addv kc_243 b37 (by decide), kt_243]
            have b40 : IV x39 243 246 := by rw [ex39]; exact iv_add kc_243 b37 (by decide)
            refine m_iload C dX12_stones_81 rfl ?_
            refine m_iconst (v := 2) C dX12_stones_83 (by decide) ?_
            refine m_iload_n C dX12_stones_84 rfl rfl ?_
            refine m_iconst (v := 1) C dX12_stones_85 (by decide) ?_
            refine m_isub C dX12_stones_86 ?_
            refine m_topi (fun x41 ex41 => ?_)
            have tx41 : x41.toInt = y2.toInt - 1 := by rw [ex41, ti_subv b38 kc_1 (by decide), kt_1]
            have b42 : IV x41 0 3 := by rw [ex41]; exact iv_sub b38 kc_1 (by decide)
            refine m_iload C dX12_stones_87 rfl ?_
            refine m_isub C dX12_stones_89 ?_
            refine m_topi (fun x43 ex43 => ?_)
            have tx43 : x43.toInt = x41.toInt - y6.toInt := by rw [ex43, ti_subv b42 b37 (by decide)]
            have b44 : IV x43 (-3) 3 := by rw [ex43]; exact iv_sub b42 b37 (by decide)
            refine m_imul C dX12_stones_90 ?_
            refine m_topi (fun x45 ex45 => ?_)
            refine m_ishr C dX12_stones_91 ?_
            refine m_topi (fun x46 ex46 => ?_)
            refine m_iconst (v := 3) C dX12_stones_92 (by decide) ?_
            refine m_iand C dX12_stones_93 ?_
            refine m_topi (fun x47 ex47 => ?_)
            have b48 : IV x47 0 3 := by rw [ex47]; exact iv_and_r kc_3 (by decide)
            refine as_23 C b40 (by decide) rfl dX12_stones_94 ?_
            refine m_tops (fun τ49 eτ49 => ?_)
            have i50 : Inv τ49 := eτ49 ▸ Inv.putW iτ (by omega)
            have f51 : Fr MS_X12_stones AS_X12_stones σ τ49 := eτ49 ▸ Fr.put (fτ) (Or.inr (by decide))
            obtain ⟨x52, ex52⟩ : ∃ y : Int32, y = y6 + 1 := ⟨_, rfl⟩
            have tx52 : x52.toInt = y6.toInt + 1 := by rw [ex52, ti_addv b37 kc_1 (by decide), kt_1]
            have b53 : IV x52 1 4 := by rw [ex52]; exact iv_add b37 kc_1 (by decide)
            refine m_iinc (v := x52) (L1 := [some (.ref (G.1 22 0)), some (.int a1), some (.int y2), some (.int y3), some (.int y4), some (.int y5), some (.int x52)]) C dX12_stones_95 rfl (by rw [ex52]; rfl) (by decide) rfl rfl ?_
            refine m_goto (tgt := 65) C dX12_stones_98 (by decide) ?_
            exact ih65 τ49 x52 i50 f51 b_a1 (iv_wk b38 (by decide)) b_y3 b_y4 b_y5 (iv_wk b53 (by decide)) (by have q := hm65; omega)
      refine m_iload C dX12_stones_44 rfl ?_
      refine m_iconst (v := 1) C dX12_stones_46 (by decide) ?_
      refine m_iconst (v := 2) C dX12_stones_47 (by decide) ?_
      refine m_iload_n C dX12_stones_48 rfl rfl ?_
      refine m_imul C dX12_stones_49 ?_
      refine m_topi (fun x54 ex54 => ?_)
      have tx54 : x54.toInt = 2 * y2.toInt := by rw [ex54, ti_mulv kc_2 b_y2 (by decide), kt_2]
      have b55 : IV x54 0 8 := by rw [ex54]; exact iv_mul kc_2 b_y2 (by decide)
      refine m_ishl C dX12_stones_50 ?_
      refine m_topi (fun x56 ex56 => ?_)
      have b57 : IV x56 1 256 := by rw [ex56]; exact iv_shl1 b55 (by decide)
      refine m_icmp_ge (tgt := 155) C dX12_stones_51 (by decide) (fun c58 => ?_) (fun c58 => ?_)
      · have f59 : x56.toInt ≤ y5.toInt := by
          have q : _ := c58
          simp only [ti_nle, ti_nlt, ti_le, ti_lt, ti_eq, ti_ne, Classical.not_not] at q
          omega
        have b60 : IV y5 1 257 := ⟨by have q1 := b57; have q2 := b_y5; omega, by have q1 := b57; have q2 := b_y5; omega⟩
        refine m_iload_n C dX12_stones_155 rfl rfl ?_
        refine m_if_ge (tgt := 164) C dX12_stones_156 (by decide) (fun c61 => ?_) (fun c61 => ?_)
        · have f62 : 0 ≤ a1.toInt := by
            have q : _ := c61
            simp only [ti_nle, ti_nlt, ti_le, ti_lt, ti_eq, ti_ne, Classical.not_not, kt_0] at q
            omega
          have b63 : IV a1 0 3 := ⟨by have q1 := kc_0; have q2 := b_a1; omega, by have q1 := kc_0; have q2 := b_a1; omega⟩
          refine m_iload_n C dX12_stones_164 rfl rfl ?_
          refine m_iconst (v := 2) C dX12_stones_165 (by decide) ?_
          refine m_iload_n C dX12_stones_166 rfl rfl ?_
          refine m_iconst (v := 1) C dX12_stones_167 (by decide) ?_
          refine m_isub C dX12_stones_168 ?_
          refine m_topi (fun x64 ex64 => ?_)
          have tx64 : x64.toInt = y2.toInt - 1 := by rw [ex64, ti_subv b_y2 kc_1 (by decide), kt_1]
          have b65 : IV x64 (-1) 3 := by rw [ex64]; exact iv_sub b_y2 kc_1 (by decide)
          refine m_iload_n C dX12_stones_169 rfl rfl ?_
          refine m_isub C dX12_stones_170 ?_
          refine m_topi (fun x66 ex66 => ?_)
          have tx66 : x66.toInt = x64.toInt - a1.toInt := by rw [ex66, ti_subv b65 b63 (by decide)]
          have b67 : IV x66 (-4) 3 := by rw [ex66]; exact iv_sub b65 b63 (by decide)
          refine m_imul C dX12_stones_171 ?_
          refine m_topi (fun x68 ex68 => ?_)
          refine m_ishr C dX12_stones_172 ?_
          refine m_topi (fun x69 ex69 => ?_)
          refine m_iconst (v := 3) C dX12_stones_173 (by decide) ?_
          refine m_iand C dX12_stones_174 ?_
          refine m_topi (fun x70 ex70 => ?_)
          have b71 : IV x70 0 3 := by rw [ex70]; exact iv_and_r kc_3 (by decide)
          exact m_iret C hr hlk (by decide) (by decide) dX12_stones_175 ⟨_, rfl, iτ, fτ, (iv_wk b71 (by decide))⟩
        · have f72 : a1.toInt < 0 := by
            have q : _ := c61
            simp only [ti_nle, ti_nlt, ti_le, ti_lt, ti_eq, ti_ne, Classical.not_not, kt_0] at q
            omega
          have b73 : IV a1 (-1) (-1) := ⟨by have q1 := b_a1; have q2 := kc_0; omega, by have q1 := b_a1; have q2 := kc_0; omega⟩
          refine m_iload C dX12_stones_159 rfl ?_
          refine m_goto (tgt := 175) C dX12_stones_161 (by decide) ?_
          exact m_iret C hr hlk (by decide) (by decide) dX12_stones_175 ⟨_, rfl, iτ, fτ, b_y4⟩
      · have f74 : y5.toInt < x56.toInt := by
          have q : _ := c58
          simp only [ti_nle, ti_nlt, ti_le, ti_lt, ti_eq, ti_ne, Classical.not_not] at q
          omega
        have b75 : IV y5 0 255 := ⟨by have q1 := b_y5; have q2 := b57; omega, by have q1 := b_y5; have q2 := b57; omega⟩
        refine m_aload_n C dX12_stones_54 rfl rfl ?_
        refine m_iconst (v := 0) C dX12_stones_55 (by decide) ?_
        refine m_sipush (v := 200) C dX12_stones_56 (by decide) ?_
        have q76 := kt_0
        have q77 := kt_200
        refine m_callV (n := 2) (ci := 11) (st := []) C (c_X12_copyAll l G τ (0) (200) iτ (iv_wk kc_0 (by decide)) (iv_wk kc_200 (by decide)) (by omega) (by omega) (by omega) (Or.inl (by omega))) (by decide) (by decide) rfl rfl rfl q5_38 q5_35 q5_37 q0_35 q1_7 (by decide +kernel) rfl (by decide) (by decide) rfl (Nat.le_of_ble_eq_true rfl) dX12_stones_59 ?_
        rintro _ τ78 ⟨rfl, i79, f80, h84⟩
        have g83 : Fr MS_X12_stones AS_X12_stones σ τ78 := Fr.call (fτ) f80 (by decide)
        show MW p l e _ s m args below meth c _ 7 G 0 0 62 [some (.ref (G.1 22 0)), some (.int a1), some (.int y2), some (.int y3), some (.int y4), some (.int y5), none] [] τ78
        refine m_iconst (v := 0) C dX12_stones_62 (by decide) ?_
        refine m_istore (L1 := [some (.ref (G.1 22 0)), some (.int a1), some (.int y2), some (.int y3), some (.int y4), some (.int y5), some (.int 0)]) C dX12_stones_63 (by decide) rfl rfl ?_
        exact J65 ((4 - (0 : Int32).toInt).toNat + 1) τ78 0 i79 g83 b_a1 b_y2 b_y3 b_y4 (iv_wk b75 (by decide)) (iv_wk kc_0 (by decide)) (Nat.lt_succ_self _)
  refine m_aload_n C dX12_stones_0 rfl rfl ?_
  refine m_callV (n := 0) (ci := 11) (st := []) C (c_X12_isTower l G σ  hI ) (by decide) (by decide) rfl rfl rfl q5_67 q5_64 q5_66 q0_38 q1_7 (by decide +kernel) rfl (by decide) (by decide) rfl (Nat.le_of_ble_eq_true rfl) dX12_stones_1 ?_
  rintro _ τ85 ⟨x88, rfl, i86, f87, b89⟩
  have g90 : Fr MS_X12_stones AS_X12_stones σ τ85 := Fr.call (Fr.rf) f87 (by decide)
  show MW p l e _ s m args below meth c _ 7 G 0 0 4 [some (.ref (G.1 22 0)), some (.int a1), none, none, none, none, none] [.int x88] τ85
  refine m_if_ne (tgt := 10) C dX12_stones_4 (by decide) (fun c92 => ?_) (fun c92 => ?_)
  · have f93 : x88.toInt ≠ 0 := by
      have q : _ := c92
      simp only [ti_nle, ti_nlt, ti_le, ti_lt, ti_eq, ti_ne, Classical.not_not, kt_0] at q
      omega
    have b94 : IV x88 1 1 := ⟨by have q1 := b89; have q2 := kc_0; omega, by have q1 := b89; have q2 := kc_0; omega⟩
    refine m_aload_n C dX12_stones_10 rfl rfl ?_
    refine g_22_0 C q4_116 dX12_stones_11 ?_
    refine m_bipush (v := 38) C dX12_stones_14 (by decide) ?_
    refine al_23 C kc_38 (by decide) kn_38 dX12_stones_16 ?_
    refine m_topi (fun x95 ex95 => ?_)
    have b96 : IV x95 0 4 := by rw [ex95]; exact i86.1 23 0 38
    refine m_istore_n (L1 := [some (.ref (G.1 22 0)), some (.int a1), some (.int x95), none, none, none, none]) C dX12_stones_17 rfl (by decide) rfl rfl ?_
    refine m_iload_n C dX12_stones_18 rfl rfl ?_
    refine m_i2l C dX12_stones_19 ?_
    refine m_ldc2 (v := (-1)) C dX12_stones_20 q4_236 ?_
    refine m_iload_n C dX12_stones_23 rfl rfl ?_
    refine m_iconst (v := 1) C dX12_stones_24 (by decide) ?_
    refine m_isub C dX12_stones_25 ?_
    refine m_topi (fun x97 ex97 => ?_)
    have tx97 : x97.toInt = x95.toInt - 1 := by rw [ex97, ti_subv b96 kc_1 (by decide), kt_1]
    have b98 : IV x97 (-1) 3 := by rw [ex97]; exact iv_sub b96 kc_1 (by decide)
    refine m_i2l C dX12_stones_26 ?_
    refine m_callS (n := 3) (st := []) C (c_X12_in l G τ85 ((a1 : Int32).toInt64) ((-1)) ((x97 : Int32).toInt64) i86 ) q4_190 q4_188 q4_189 q1_7 (by decide +kernel) rfl (by decide) (by decide) rfl (Nat.le_of_ble_eq_true rfl) dX12_stones_27 ?_
    rintro _ τ99 ⟨x102, rfl, i100, f101, b103, h105⟩
    have g104 : Fr MS_X12_stones AS_X12_stones σ τ99 := Fr.call (g90) f101 (by decide)
    have f106 := tl_i a1
    have f107 := kl_m1
    have f108 := tl_i x97
    have q109 := b98
    show MW p l e _ s m args below meth c _ 7 G 0 0 30 [some (.ref (G.1 22 0)), some (.int a1), some (.int x95), none, none, none, none] [.int x102] τ99
    refine m_if_ne (tgt := 36) C dX12_stones_30 (by decide) (fun c110 => ?_) (fun c110 => ?_)
    · have f111 : x102.toInt ≠ 0 := by
        have q : _ := c110
        simp only [ti_nle, ti_nlt, ti_le, ti_lt, ti_eq, ti_ne, Classical.not_not, kt_0] at q
        omega
      have b112 : IV x102 1 1 := ⟨by have q1 := b103; have q2 := kc_0; omega, by have q1 := b103; have q2 := kc_0; omega⟩
      have b113 : IV a1 (-1) 3 := ⟨by have q1 := (iv_any a1); omega, by have q1 := (iv_any a1); omega⟩
      refine m_iconst (v := 0) C dX12_stones_36 (by decide) ?_
      refine m_istore_n (L1 := [some (.ref (G.1 22 0)), some (.int a1), some (.int x95), some (.int 0), none, none, none]) C dX12_stones_37 rfl (by decide) rfl rfl ?_
      refine m_iconst (v := 0) C dX12_stones_38 (by decide) ?_
      refine m_istore (L1 := [some (.ref (G.1 22 0)), some (.int a1), some (.int x95), some (.int 0), some (.int 0), none, none]) C dX12_stones_39 (by decide) rfl rfl ?_
      refine m_iconst (v := 0) C dX12_stones_41 (by decide) ?_
      refine m_istore (L1 := [some (.ref (G.1 22 0)), some (.int a1), some (.int x95), some (.int 0), some (.int 0), some (.int 0), none]) C dX12_stones_42 (by decide) rfl rfl ?_
      exact J44 ((257 - (0 : Int32).toInt).toNat + 1) τ99 x95 0 0 0 i100 g104 b113 b96 (iv_wk kc_0 (by decide)) (iv_wk kc_0 (by decide)) (iv_wk kc_0 (by decide)) (Nat.lt_succ_self _)
    · have f114 : x102.toInt = 0 := by
        have q : _ := c110
        simp only [ti_nle, ti_nlt, ti_le, ti_lt, ti_eq, ti_ne, Classical.not_not, kt_0] at q
        omega
      have b115 : IV x102 0 0 := ⟨by have q1 := b103; have q2 := kc_0; omega, by have q1 := b103; have q2 := kc_0; omega⟩
      refine m_ldc (v := (-1000001)) C dX12_stones_33 q4_192 ?_
      exact m_iret C hr hlk (by decide) (by decide) dX12_stones_35 ⟨_, rfl, i100, g104, (iv_wk kc_m1000001 (by decide))⟩
  · have f116 : x88.toInt = 0 := by
      have q : _ := c92
      simp only [ti_nle, ti_nlt, ti_le, ti_lt, ti_eq, ti_ne, Classical.not_not, kt_0] at q
      omega
    have b117 : IV x88 0 0 := ⟨by have q1 := b89; have q2 := kc_0; omega, by have q1 := b89; have q2 := kc_0; omega⟩
    refine m_ldc (v := (-1000002)) C dX12_stones_7 q5_68 ?_
    exact m_iret C hr hlk (by decide) (by decide) dX12_stones_9 ⟨_, rfl, i86, g90, (iv_wk kc_m1000002 (by decide))⟩

abbrev MS_X12_marks : List (Nat × Nat) := [(22, 8)]
abbrev AS_X12_marks : List Nat := [23]
set_option maxHeartbeats 4000000 in
set_option maxRecDepth 100000 in
theorem c_X12_marks (l : Launch) (G : Gt) (σ : Sg) (a1 : Int32) (a2 : Int32) (a3 : Int32) (a4 : Int32) (hI : Inv σ) : Mc l G yX12_marks cX12_marks 8 (some .int) 2 46 0 0 [.ref (G.1 22 0), .int a1, .int a2, .int a3, .int a4] σ (PI fun r τ => Inv τ ∧ Fr MS_X12_marks AS_X12_marks σ τ ∧ IV r (-2147483648) 2147483647) := by
  refine Mc.of (L0 := [some (.ref (G.1 22 0)), some (.int a1), some (.int a2), some (.int a3), some (.int a4), none, none, none]) (by decide) (Nat.le_of_ble_eq_true rfl) rfl ?_
  intro p e s m args below meth c C hr hlk
  have C : Cx p s m args c cX12_marks 8 "LeanTowerModel" := C
  have k0 : (0 : Int32).toInt = 0 := by decide
  have k1 : (1 : Int32).toInt = 1 := by decide
  have J158 : ∀ (n : Nat) (τ : Sg) (y5 : Int32) (y6 : Int32), Inv τ → Fr MS_X12_marks AS_X12_marks σ τ → IV a1 0 7 → IV a2 (-999) 999 → IV a3 (-999) 999 → IV a4 (-1) 2147483647 → IV y5 (-2147483648) 2147483647 → IV y6 0 128 → (128 - y6.toInt).toNat < n → MW p l e { frames := 2, cells := 0, slots := 0, locals := 46 } s m args below meth c (MQ below (QP G (PI fun r τ => Inv τ ∧ Fr MS_X12_marks AS_X12_marks σ τ ∧ IV r (-2147483648) 2147483647)) args s 0 0 (aG G)) 8 G 0 0 158 [some (.ref (G.1 22 0)), some (.int a1), some (.int a2), some (.int a3), some (.int a4), some (.int y5), some (.int y6), none] [] τ := by
    intro n
    induction n with
    | zero => intro τ y5 y6 iτ fτ b_a1 b_a2 b_a3 b_a4 b_y5 b_y6 hm; exact absurd hm (Nat.not_lt_zero _)
    | succ n ih158 =>
      intro τ y5 y6 iτ fτ b_a1 b_a2 b_a3 b_a4 b_y5 b_y6 hm158
      have J174 : ∀ (n : Nat) (τ : Sg) (y7 : Int32), Inv τ → Fr MS_X12_marks AS_X12_marks σ τ → IV a1 0 7 → IV a2 (-999) 999 → IV a3 (-999) 999 → IV a4 (-1) 2147483647 → IV y5 (-2147483648) 2147483647 → IV y6 0 127 → IV y7 0 7 → (7 - y7.toInt).toNat < n → MW p l e { frames := 2, cells := 0, slots := 0, locals := 46 } s m args below meth c (MQ below (QP G (PI fun r τ => Inv τ ∧ Fr MS_X12_marks AS_X12_marks σ τ ∧ IV r (-2147483648) 2147483647)) args s 0 0 (aG G)) 8 G 0 0 174 [some (.ref (G.1 22 0)), some (.int a1), some (.int a2), some (.int a3), some (.int a4), some (.int y5), some (.int y6), some (.int y7)] [] τ := by
        intro n
        induction n with
        | zero => intro τ y7 iτ fτ b_a1 b_a2 b_a3 b_a4 b_y5 b_y6 b_y7 hm; exact absurd hm (Nat.not_lt_zero _)
        | succ n ih174 =>
          intro τ y7 iτ fτ b_a1 b_a2 b_a3 b_a4 b_y5 b_y6 b_y7 hm174
          refine m_iload C dX12_marks_174 rfl ?_
          refine m_aload_n C dX12_marks_176 rfl rfl ?_
          refine g_22_0 C q4_116 dX12_marks_177 ?_
          refine m_iconst (v := 2) C dX12_marks_180 (by decide) ?_
          refine al_23 C kc_2 (by decide) kn_2 dX12_marks_181 ?_
          refine m_topi (fun x1 ex1 => ?_)
          have b2 : IV x1 0 7 := by rw [ex1]; exact iτ.1 23 0 2
          refine m_icmp_ge (tgt := 228) C dX12_marks_182 (by decide) (fun c3 => ?_) (fun c3 => ?_)
          · have f4 : x1.toInt ≤ y7.toInt := by
              have q : _ := c3
              simp only [ti_nle, ti_nlt, ti_le, ti_lt, ti_eq, ti_ne, Classical.not_not] at q
              omega
            refine m_aload_n C dX12_marks_228 rfl rfl ?_
            refine m_sipush (v := 200) C dX12_marks_229 (by decide) ?_
            refine m_iconst (v := 1) C dX12_marks_232 (by decide) ?_
            have q5 := kt_200
            have q6 := kt_1
            refine m_callV (n := 2) (ci := 11) (st := []) C (c_X12_leanOf l G τ (200) (1) iτ (iv_wk kc_200 (by decide)) (by omega)) (by decide) (by decide) rfl rfl rfl q5_82 q5_79 q5_81 q0_41 q1_7 (by decide +kernel) rfl (by decide) (by decide) rfl (Nat.le_of_ble_eq_true rfl) dX12_marks_233 ?_
            rintro _ τ7 ⟨x10, rfl, i8, f9, b11⟩
            have g12 : Fr MS_X12_marks AS_X12_marks σ τ7 := Fr.call (fτ) f9 (by decide)
            show MW p l e _ s m args below meth c _ 8 G 0 0 236 [some (.ref (G.1 22 0)), some (.int a1), some (.int a2), some (.int a3), some (.int a4), some (.int y5), some (.int y6), some (.int y7)] [.int x10] τ7
            refine m_iload_n C dX12_marks_236 rfl rfl ?_
            refine m_icmp_ne (tgt := 269) C dX12_marks_237 (by decide) (fun c14 => ?_) (fun c14 => ?_)
            · have f15 : x10.toInt ≠ a2.toInt := by
                have q : _ := c14
                simp only [ti_nle, ti_nlt, ti_le, ti_lt, ti_eq, ti_ne, Classical.not_not] at q
                omega
              obtain ⟨x16, ex16⟩ : ∃ y : Int32, y = y6 + 1 := ⟨_, rfl⟩
              have tx16 : x16.toInt = y6.toInt + 1 := by rw [ex16, ti_addv b_y6 kc_1 (by decide), kt_1]
              have b17 : IV x16 1 128 := by rw [ex16]; exact iv_add b_y6 kc_1 (by decide)
              refine m_iinc (v := x16) (L1 := [some (.ref (G.1 22 0)), some (.int a1), some (.int a2), some (.int a3), some (.int a4), some (.int y5), some (.int x16), some (.int y7)]) C dX12_marks_269 rfl (by rw [ex16]; rfl) (by decide) rfl rfl ?_
              refine m_goto (tgt := 158) C dX12_marks_272 (by decide) ?_
              refine m_sub (L1 := [some (.ref (G.1 22 0)), some (.int a1), some (.int a2), some (.int a3), some (.int a4), some (.int y5), some (.int x16), none]) ⟨rfl, ⟨rfl, ⟨rfl, ⟨rfl, ⟨rfl, ⟨rfl, ⟨rfl, trivial⟩⟩⟩⟩⟩⟩⟩ ?_
              exact ih158 τ7 y5 x16 i8 g12 b_a1 b_a2 b_a3 b_a4 b_y5 (iv_wk b17 (by decide)) (by have q := hm158; omega)
            · have f18 : x10.toInt = a2.toInt := by
                have q : _ := c14
                simp only [ti_nle, ti_nlt, ti_le, ti_lt, ti_eq, ti_ne, Classical.not_not] at q
                omega
              have b19 : IV x10 (-999) 999 := ⟨by have q1 := b11; have q2 := b_a2; omega, by have q1 := b11; have q2 := b_a2; omega⟩
              refine m_aload_n C dX12_marks_240 rfl rfl ?_
              refine m_sipush (v := 200) C dX12_marks_241 (by decide) ?_
              refine m_iconst (v := 0) C dX12_marks_244 (by decide) ?_
              have q20 := kt_200
              have q21 := kt_0
              refine m_callV (n := 2) (ci := 11) (st := []) C (c_X12_leanOf l G τ7 (200) (0) i8 (iv_wk kc_200 (by decide)) (by omega)) (by decide) (by decide) rfl rfl rfl q5_82 q5_79 q5_81 q0_41 q1_7 (by decide +kernel) rfl (by decide) (by decide) rfl (Nat.le_of_ble_eq_true rfl) dX12_marks_245 ?_
              rintro _ τ22 ⟨x25, rfl, i23, f24, b26⟩
              have g27 : Fr MS_X12_marks AS_X12_marks σ τ22 := Fr.call (g12) f24 (by decide)
              show MW p l e _ s m args below meth c _ 8 G 0 0 248 [some (.ref (G.1 22 0)), some (.int a1), some (.int a2), some (.int a3), some (.int a4), some (.int y5), some (.int y6), some (.int y7)] [.int x25] τ22
              refine m_iload_n C dX12_marks_248 rfl rfl ?_
              refine m_icmp_ne (tgt := 269) C dX12_marks_249 (by decide) (fun c29 => ?_) (fun c29 => ?_)
              · have f30 : x25.toInt ≠ a3.toInt := by
                  have q : _ := c29
                  simp only [ti_nle, ti_nlt, ti_le, ti_lt, ti_eq, ti_ne, Classical.not_not] at q
                  omega
                obtain ⟨x31, ex31⟩ : ∃ y : Int32, y = y6 + 1 := ⟨_, rfl⟩
                have tx31 : x31.toInt = y6.toInt + 1 := by rw [ex31, ti_addv b_y6 kc_1 (by decide), kt_1]
                have b32 : IV x31 1 128 := by rw [ex31]; exact iv_add b_y6 kc_1 (by decide)
                refine m_iinc (v := x31) (L1 := [some (.ref (G.1 22 0)), some (.int a1), some (.int a2), some (.int a3), some (.int a4), some (.int y5), some (.int x31), some (.int y7)]) C dX12_marks_269 rfl (by rw [ex31]; rfl) (by decide) rfl rfl ?_
                refine m_goto (tgt := 158) C dX12_marks_272 (by decide) ?_
                refine m_sub (L1 := [some (.ref (G.1 22 0)), some (.int a1), some (.int a2), some (.int a3), some (.int a4), some (.int y5), some (.int x31), none]) ⟨rfl, ⟨rfl, ⟨rfl, ⟨rfl, ⟨rfl, ⟨rfl, ⟨rfl, trivial⟩⟩⟩⟩⟩⟩⟩ ?_
                exact ih158 τ22 y5 x31 i23 g27 b_a1 b_a2 b_a3 b_a4 b_y5 (iv_wk b32 (by decide)) (by have q := hm158; omega)
              · have f33 : x25.toInt = a3.toInt := by
                  have q : _ := c29
                  simp only [ti_nle, ti_nlt, ti_le, ti_lt, ti_eq, ti_ne, Classical.not_not] at q
                  omega
                have b34 : IV x25 (-999) 999 := ⟨by have q1 := b26; have q2 := b_a3; omega, by have q1 := b26; have q2 := b_a3; omega⟩
                refine m_iload C dX12_marks_252 rfl ?_
                refine m_iload C dX12_marks_254 rfl ?_
                refine m_icmp_ne (tgt := 266) C dX12_marks_256 (by decide) (fun c35 => ?_) (fun c35 => ?_)
                · have f36 : y5.toInt ≠ a4.toInt := by
                    have q : _ := c35
                    simp only [ti_nle, ti_nlt, ti_le, ti_lt, ti_eq, ti_ne, Classical.not_not] at q
                    omega
                  obtain ⟨x37, ex37⟩ : ∃ y : Int32, y = y5 + 1 := ⟨_, rfl⟩
                  refine m_iinc (v := x37) (L1 := [some (.ref (G.1 22 0)), some (.int a1), some (.int a2), some (.int a3), some (.int a4), some (.int x37), some (.int y6), some (.int y7)]) C dX12_marks_266 rfl (by rw [ex37]; rfl) (by decide) rfl rfl ?_
                  obtain ⟨x38, ex38⟩ : ∃ y : Int32, y = y6 + 1 := ⟨_, rfl⟩
                  have tx38 : x38.toInt = y6.toInt + 1 := by rw [ex38, ti_addv b_y6 kc_1 (by decide), kt_1]
                  have b39 : IV x38 1 128 := by rw [ex38]; exact iv_add b_y6 kc_1 (by decide)
                  refine m_iinc (v := x38) (L1 := [some (.ref (G.1 22 0)), some (.int a1), some (.int a2), some (.int a3), some (.int a4), some (.int x37), some (.int x38), some (.int y7)]) C dX12_marks_269 rfl (by rw [ex38]; rfl) (by decide) rfl rfl ?_
                  refine m_goto (tgt := 158) C dX12_marks_272 (by decide) ?_
                  refine m_sub (L1 := [some (.ref (G.1 22 0)), some (.int a1), some (.int a2), some (.int a3), some (.int a4), some (.int x37), some (.int x38), none]) ⟨rfl, ⟨rfl, ⟨rfl, ⟨rfl, ⟨rfl, ⟨rfl, ⟨rfl, trivial⟩⟩⟩⟩⟩⟩⟩ ?_
                  exact ih158 τ22 x37 x38 i23 g27 b_a1 b_a2 b_a3 b_a4 (iv_any x37) (iv_wk b39 (by decide)) (by have q := hm158; omega)
                · have f40 : y5.toInt = a4.toInt := by
                    have q : _ := c35
                    simp only [ti_nle, ti_nlt, ti_le, ti_lt, ti_eq, ti_ne, Classical.not_not] at q
                    omega
                  have b41 : IV y5 (-1) 2147483647 := ⟨by have q1 := b_y5; have q2 := b_a4; omega, by have q1 := b_y5; have q2 := b_a4; omega⟩
                  refine m_aload_n C dX12_marks_259 rfl rfl ?_
                  refine m_iload C dX12_marks_260 rfl ?_
                  refine m_callV (n := 1) (ci := 11) (st := []) C (c_X12_fine l G τ22 (y6) i23 ) (by decide) (by decide) rfl rfl rfl q4_201 q4_198 q4_200 q0_27 q1_7 (by decide +kernel) rfl (by decide) (by decide) rfl (Nat.le_of_ble_eq_true rfl) dX12_marks_262 ?_
                  rintro _ τ42 ⟨x45, rfl, i43, f44, b46, h48⟩
                  have g47 : Fr MS_X12_marks AS_X12_marks σ τ42 := Fr.call (g27) f44 (by decide)
                  show MW p l e _ s m args below meth c _ 8 G 0 0 265 [some (.ref (G.1 22 0)), some (.int a1), some (.int a2), some (.int a3), some (.int a4), some (.int y5), some (.int y6), some (.int y7)] [.int x45] τ42
                  exact m_iret C hr hlk (by decide) (by decide) dX12_marks_265 ⟨_, rfl, i43, g47, b46⟩
          · have f49 : y7.toInt < x1.toInt := by
              have q : _ := c3
              simp only [ti_nle, ti_nlt, ti_le, ti_lt, ti_eq, ti_ne, Classical.not_not] at q
              omega
            have b50 : IV y7 0 6 := ⟨by have q1 := b_y7; have q2 := b2; omega, by have q1 := b_y7; have q2 := b2; omega⟩
            have b51 : IV x1 1 7 := ⟨by have q1 := b_y7; have q2 := b2; omega, by have q1 := b_y7; have q2 := b2; omega⟩
            refine m_aload_n C dX12_marks_185 rfl rfl ?_
            refine g_22_0 C q4_116 dX12_marks_186 ?_
            refine m_sipush (v := 224) C dX12_marks_189 (by decide) ?_
            refine m_iload C dX12_marks_192 rfl ?_
            refine m_iadd C dX12_marks_194 ?_
            refine m_topi (fun x52 ex52 => ?_)
            have tx52 : x52.toInt = 224 + y7.toInt := by rw [ex52, ti_addv kc_224 b50 (by decide), kt_224]
            have b53 : IV x52 224 230 := by rw [ex52]; exact iv_add kc_224 b50 (by decide)
            refine m_iload C dX12_marks_195 rfl ?_
            refine m_iload C dX12_marks_197 rfl ?_
            refine m_callS (n := 2) (st := [.int x52, .ref (G.1 23 0)]) C (c_X12_has l G τ (y6) (y7) iτ ) q5_142 q5_140 q5_141 q1_7 (by decide +kernel) rfl (by decide) (by decide) rfl (Nat.le_of_ble_eq_true rfl) dX12_marks_199 ?_
            rintro _ τ54 ⟨x57, rfl, i55, f56, b58⟩
            have g59 : Fr MS_X12_marks AS_X12_marks σ τ54 := Fr.call (fτ) f56 (by decide)
            show MW p l e _ s m args below meth c _ 8 G 0 0 202 [some (.ref (G.1 22 0)), some (.int a1), some (.int a2), some (.int a3), some (.int a4), some (.int y5), some (.int y6), some (.int y7)] [.int x57, .int x52, .ref (G.1 23 0)] τ54
            refine m_if_eq (tgt := 220) C dX12_marks_202 (by decide) (fun c61 => ?_) (fun c61 => ?_)
            · have f62 : x57.toInt = 0 := by
                have q : _ := c61
                simp only [ti_nle, ti_nlt, ti_le, ti_lt, ti_eq, ti_ne, Classical.not_not, kt_0] at q
                omega
              have b63 : IV x57 0 0 := ⟨by have q1 := b58; have q2 := kc_0; omega, by have q1 := b58; have q2 := kc_0; omega⟩
              refine m_iconst (v := (-1)) C dX12_marks_220 (by decide) ?_
              refine as_23 C b53 (by decide) rfl dX12_marks_221 ?_
              refine m_tops (fun τ64 eτ64 => ?_)
              have i65 : Inv τ64 := eτ64 ▸ Inv.putW i55 (by omega)
              have f66 : Fr MS_X12_marks AS_X12_marks σ τ64 := eτ64 ▸ Fr.put (g59) (Or.inr (by decide))
              obtain ⟨x67, ex67⟩ : ∃ y : Int32, y = y7 + 1 := ⟨_, rfl⟩
              have tx67 : x67.toInt = y7.toInt + 1 := by rw [ex67, ti_addv b50 kc_1 (by decide), kt_1]
              have b68 : IV x67 1 7 := by rw [ex67]; exact iv_add b50 kc_1 (by decide)
              refine m_iinc (v := x67) (L1 := [some (.ref (G.1 22 0)), some (.int a1), some (.int a2), some (.int a3), some (.int a4), some (.int y5), some (.int y6), some (.int x67)]) C dX12_marks_222 rfl (by rw [ex67]; rfl) (by decide) rfl rfl ?_
              refine m_goto (tgt := 174) C dX12_marks_225 (by decide) ?_
              exact ih174 τ64 x67 i65 f66 b_a1 b_a2 b_a3 b_a4 b_y5 b_y6 (iv_wk b68 (by decide)) (by have q := hm174; omega)
            · have f69 : x57.toInt ≠ 0 := by
                have q : _ := c61
                simp only [ti_nle, ti_nlt, ti_le, ti_lt, ti_eq, ti_ne, Classical.not_not, kt_0] at q
                omega
              have b70 : IV x57 1 1 := ⟨by have q1 := b58; have q2 := kc_0; omega, by have q1 := b58; have q2 := kc_0; omega⟩
              refine m_aload_n C dX12_marks_205 rfl rfl ?_
              refine g_22_2 C q4_118 dX12_marks_206 ?_
              refine m_bipush (v := 40) C dX12_marks_209 (by decide) ?_
              refine m_iload_n C dX12_marks_211 rfl rfl ?_
              refine m_imul C dX12_marks_212 ?_
              refine m_topi (fun x71 ex71 => ?_)
              have tx71 : x71.toInt = 40 * a1.toInt := by rw [ex71, ti_mulv kc_40 b_a1 (by decide), kt_40]
              have b72 : IV x71 0 280 := by rw [ex71]; exact iv_mul kc_40 b_a1 (by decide)
              refine m_iload C dX12_marks_213 rfl ?_
              refine m_iadd C dX12_marks_215 ?_
              refine m_topi (fun x73 ex73 => ?_)
              have tx73 : x73.toInt = x71.toInt + y7.toInt := by rw [ex73, ti_addv b72 b50 (by decide)]
              have b74 : IV x73 0 286 := by rw [ex73]; exact iv_add b72 b50 (by decide)
              refine al_25 C b74 (by decide) rfl dX12_marks_216 ?_
              refine m_topi (fun x75 ex75 => ?_)
              refine m_goto (tgt := 221) C dX12_marks_217 (by decide) ?_
              refine as_23 C b53 (by decide) rfl dX12_marks_221 ?_
              refine m_tops (fun τ76 eτ76 => ?_)
              have i77 : Inv τ76 := eτ76 ▸ Inv.putW i55 (by omega)
              have f78 : Fr MS_X12_marks AS_X12_marks σ τ76 := eτ76 ▸ Fr.put (g59) (Or.inr (by decide))
              obtain ⟨x79, ex79⟩ : ∃ y : Int32, y = y7 + 1 := ⟨_, rfl⟩
              have tx79 : x79.toInt = y7.toInt + 1 := by rw [ex79, ti_addv b50 kc_1 (by decide), kt_1]
              have b80 : IV x79 1 7 := by rw [ex79]; exact iv_add b50 kc_1 (by decide)
              refine m_iinc (v := x79) (L1 := [some (.ref (G.1 22 0)), some (.int a1), some (.int a2), some (.int a3), some (.int a4), some (.int y5), some (.int y6), some (.int x79)]) C dX12_marks_222 rfl (by rw [ex79]; rfl) (by decide) rfl rfl ?_
              refine m_goto (tgt := 174) C dX12_marks_225 (by decide) ?_
              exact ih174 τ76 x79 i77 f78 b_a1 b_a2 b_a3 b_a4 b_y5 b_y6 (iv_wk b80 (by decide)) (by have q := hm174; omega)
      refine m_iload C dX12_marks_158 rfl ?_
      refine m_iconst (v := 1) C dX12_marks_160 (by decide) ?_
      refine m_aload_n C dX12_marks_161 rfl rfl ?_
      refine g_22_0 C q4_116 dX12_marks_162 ?_
      refine m_iconst (v := 2) C dX12_marks_165 (by decide) ?_
      refine al_23 C kc_2 (by decide) kn_2 dX12_marks_166 ?_
      refine m_topi (fun x81 ex81 => ?_)
      have b82 : IV x81 0 7 := by rw [ex81]; exact iτ.1 23 0 2
      refine m_ishl C dX12_marks_167 ?_
      refine m_topi (fun x83 ex83 => ?_)
      have b84 : IV x83 1 128 := by rw [ex83]; exact iv_shl1 b82 (by decide)
      refine m_icmp_ge (tgt := 275) C dX12_marks_168 (by decide) (fun c85 => ?_) (fun c85 => ?_)
      · have f86 : x83.toInt ≤ y6.toInt := by
          have q : _ := c85
          simp only [ti_nle, ti_nlt, ti_le, ti_lt, ti_eq, ti_ne, Classical.not_not] at q
          omega
        have b87 : IV y6 1 128 := ⟨by have q1 := b84; have q2 := b_y6; omega, by have q1 := b84; have q2 := b_y6; omega⟩
        refine m_aload_n C dX12_marks_275 rfl rfl ?_
        refine m_iload C dX12_marks_276 rfl ?_
        refine m_if_ge (tgt := 286) C dX12_marks_278 (by decide) (fun c88 => ?_) (fun c88 => ?_)
        · have f89 : 0 ≤ a4.toInt := by
            have q : _ := c88
            simp only [ti_nle, ti_nlt, ti_le, ti_lt, ti_eq, ti_ne, Classical.not_not, kt_0] at q
            omega
          have b90 : IV a4 0 2147483647 := ⟨by have q1 := kc_0; have q2 := b_a4; omega, by have q1 := kc_0; have q2 := b_a4; omega⟩
          refine m_ldc (v := (-1000000)) C dX12_marks_286 q5_70 ?_
          refine m_callV (n := 1) (ci := 11) (st := []) C (c_X12_fine l G τ ((-1000000)) iτ ) (by decide) (by decide) rfl rfl rfl q4_201 q4_198 q4_200 q0_27 q1_7 (by decide +kernel) rfl (by decide) (by decide) rfl (Nat.le_of_ble_eq_true rfl) dX12_marks_288 ?_
          rintro _ τ91 ⟨x94, rfl, i92, f93, b95, h97⟩
          have g96 : Fr MS_X12_marks AS_X12_marks σ τ91 := Fr.call (fτ) f93 (by decide)
          have q98 := kt_m1000000
          show MW p l e _ s m args below meth c _ 8 G 0 0 291 [some (.ref (G.1 22 0)), some (.int a1), some (.int a2), some (.int a3), some (.int a4), some (.int y5), some (.int y6), none] [.int x94] τ91
          exact m_iret C hr hlk (by decide) (by decide) dX12_marks_291 ⟨_, rfl, i92, g96, b95⟩
        · have f99 : a4.toInt < 0 := by
            have q : _ := c88
            simp only [ti_nle, ti_nlt, ti_le, ti_lt, ti_eq, ti_ne, Classical.not_not, kt_0] at q
            omega
          have b100 : IV a4 (-1) (-1) := ⟨by have q1 := b_a4; have q2 := kc_0; omega, by have q1 := b_a4; have q2 := kc_0; omega⟩
          refine m_iload C dX12_marks_281 rfl ?_
          refine m_goto (tgt := 288) C dX12_marks_283 (by decide) ?_
          refine m_callV (n := 1) (ci := 11) (st := []) C (c_X12_fine l G τ (y5) iτ ) (by decide) (by decide) rfl rfl rfl q4_201 q4_198 q4_200 q0_27 q1_7 (by decide +kernel) rfl (by decide) (by decide) rfl (Nat.le_of_ble_eq_true rfl) dX12_marks_288 ?_
          rintro _ τ101 ⟨x104, rfl, i102, f103, b105, h107⟩
          have g106 : Fr MS_X12_marks AS_X12_marks σ τ101 := Fr.call (fτ) f103 (by decide)
          show MW p l e _ s m args below meth c _ 8 G 0 0 291 [some (.ref (G.1 22 0)), some (.int a1), some (.int a2), some (.int a3), some (.int a4), some (.int y5), some (.int y6), none] [.int x104] τ101
          exact m_iret C hr hlk (by decide) (by decide) dX12_marks_291 ⟨_, rfl, i102, g106, b105⟩
      · have f108 : y6.toInt < x83.toInt := by
          have q : _ := c85
          simp only [ti_nle, ti_nlt, ti_le, ti_lt, ti_eq, ti_ne, Classical.not_not] at q
          omega
        have b109 : IV y6 0 127 := ⟨by have q1 := b_y6; have q2 := b84; omega, by have q1 := b_y6; have q2 := b84; omega⟩
        refine m_iconst (v := 0) C dX12_marks_171 (by decide) ?_
        refine m_istore (L1 := [some (.ref (G.1 22 0)), some (.int a1), some (.int a2), some (.int a3), some (.int a4), some (.int y5), some (.int y6), some (.int 0)]) C dX12_marks_172 (by decide) rfl rfl ?_
        exact J174 ((7 - (0 : Int32).toInt).toNat + 1) τ 0 iτ fτ b_a1 b_a2 b_a3 b_a4 b_y5 b109 (iv_wk kc_0 (by decide)) (Nat.lt_succ_self _)
  have J93 : ∀ (n : Nat) (τ : Sg) (y5 : Int32), Inv τ → Fr MS_X12_marks AS_X12_marks σ τ → IV a1 0 7 → IV a2 (-999) 999 → IV a3 (-999) 999 → IV a4 (-1) 2147483647 → IV y5 0 7 → (7 - y5.toInt).toNat < n → MW p l e { frames := 2, cells := 0, slots := 0, locals := 46 } s m args below meth c (MQ below (QP G (PI fun r τ => Inv τ ∧ Fr MS_X12_marks AS_X12_marks σ τ ∧ IV r (-2147483648) 2147483647)) args s 0 0 (aG G)) 8 G 0 0 93 [some (.ref (G.1 22 0)), some (.int a1), some (.int a2), some (.int a3), some (.int a4), some (.int y5), none, none] [] τ := by
    intro n
    induction n with
    | zero => intro τ y5 iτ fτ b_a1 b_a2 b_a3 b_a4 b_y5 hm; exact absurd hm (Nat.not_lt_zero _)
    | succ n ih93 =>
      intro τ y5 iτ fτ b_a1 b_a2 b_a3 b_a4 b_y5 hm93
      refine m_iload C dX12_marks_93 rfl ?_
      refine m_aload_n C dX12_marks_95 rfl rfl ?_
      refine g_22_0 C q4_116 dX12_marks_96 ?_
      refine m_iconst (v := 2) C dX12_marks_99 (by decide) ?_
      refine al_23 C kc_2 (by decide) kn_2 dX12_marks_100 ?_
      refine m_topi (fun x110 ex110 => ?_)
      have b111 : IV x110 0 7 := by rw [ex110]; exact iτ.1 23 0 2
      refine m_icmp_ge (tgt := 144) C dX12_marks_101 (by decide) (fun c112 => ?_) (fun c112 => ?_)
      · have f113 : x110.toInt ≤ y5.toInt := by
          have q : _ := c112
          simp only [ti_nle, ti_nlt, ti_le, ti_lt, ti_eq, ti_ne, Classical.not_not] at q
          omega
        refine m_aload_n C dX12_marks_144 rfl rfl ?_
        refine m_iconst (v := 0) C dX12_marks_145 (by decide) ?_
        refine m_sipush (v := 200) C dX12_marks_146 (by decide) ?_
        have q114 := kt_0
        have q115 := kt_200
        refine m_callV (n := 2) (ci := 11) (st := []) C (c_X12_copyAll l G τ (0) (200) iτ (iv_wk kc_0 (by decide)) (iv_wk kc_200 (by decide)) (by omega) (by omega) (by omega) (Or.inl (by omega))) (by decide) (by decide) rfl rfl rfl q5_38 q5_35 q5_37 q0_35 q1_7 (by decide +kernel) rfl (by decide) (by decide) rfl (Nat.le_of_ble_eq_true rfl) dX12_marks_149 ?_
        rintro _ τ116 ⟨rfl, i117, f118, h122⟩
        have g121 : Fr MS_X12_marks AS_X12_marks σ τ116 := Fr.call (fτ) f118 (by decide)
        show MW p l e _ s m args below meth c _ 8 G 0 0 152 [some (.ref (G.1 22 0)), some (.int a1), some (.int a2), some (.int a3), some (.int a4), some (.int y5), none, none] [] τ116
        refine m_iconst (v := 0) C dX12_marks_152 (by decide) ?_
        refine m_istore (L1 := [some (.ref (G.1 22 0)), some (.int a1), some (.int a2), some (.int a3), some (.int a4), some (.int 0), none, none]) C dX12_marks_153 (by decide) rfl rfl ?_
        refine m_iconst (v := 0) C dX12_marks_155 (by decide) ?_
        refine m_istore (L1 := [some (.ref (G.1 22 0)), some (.int a1), some (.int a2), some (.int a3), some (.int a4), some (.int 0), some (.int 0), none]) C dX12_marks_156 (by decide) rfl rfl ?_
        exact J158 ((128 - (0 : Int32).toInt).toNat + 1) τ116 0 0 i117 g121 b_a1 b_a2 b_a3 b_a4 (iv_wk kc_0 (by decide)) (iv_wk kc_0 (by decide)) (Nat.lt_succ_self _)
      · have f123 : y5.toInt < x110.toInt := by
          have q : _ := c112
          simp only [ti_nle, ti_nlt, ti_le, ti_lt, ti_eq, ti_ne, Classical.not_not] at q
          omega
        have b124 : IV y5 0 6 := ⟨by have q1 := b_y5; have q2 := b111; omega, by have q1 := b_y5; have q2 := b111; omega⟩
        have b125 : IV x110 1 7 := ⟨by have q1 := b_y5; have q2 := b111; omega, by have q1 := b_y5; have q2 := b111; omega⟩
        refine m_aload_n C dX12_marks_104 rfl rfl ?_
        refine g_22_2 C q4_118 dX12_marks_105 ?_
        refine m_bipush (v := 40) C dX12_marks_108 (by decide) ?_
        refine m_iload_n C dX12_marks_110 rfl rfl ?_
        refine m_imul C dX12_marks_111 ?_
        refine m_topi (fun x126 ex126 => ?_)
        have tx126 : x126.toInt = 40 * a1.toInt := by rw [ex126, ti_mulv kc_40 b_a1 (by decide), kt_40]
        have b127 : IV x126 0 280 := by rw [ex126]; exact iv_mul kc_40 b_a1 (by decide)
        refine m_iload C dX12_marks_112 rfl ?_
        refine m_iadd C dX12_marks_114 ?_
        refine m_topi (fun x128 ex128 => ?_)
        have tx128 : x128.toInt = x126.toInt + y5.toInt := by rw [ex128, ti_addv b127 b124 (by decide)]
        have b129 : IV x128 0 286 := by rw [ex128]; exact iv_add b127 b124 (by decide)
        refine al_25 C b129 (by decide) rfl dX12_marks_115 ?_
        refine m_topi (fun x130 ex130 => ?_)
        refine m_i2l C dX12_marks_116 ?_
        refine m_ldc2 (v := (-1)) C dX12_marks_117 q4_236 ?_
        refine m_aload_n C dX12_marks_120 rfl rfl ?_
        refine g_22_0 C q4_116 dX12_marks_121 ?_
        refine m_iconst (v := 0) C dX12_marks_124 (by decide) ?_
        refine al_23 C kc_0 (by decide) kn_0 dX12_marks_125 ?_
        refine m_topi (fun x131 ex131 => ?_)
        refine m_iconst (v := 1) C dX12_marks_126 (by decide) ?_
        refine m_isub C dX12_marks_127 ?_
        refine m_topi (fun x132 ex132 => ?_)
        refine m_i2l C dX12_marks_128 ?_
        refine m_callS (n := 3) (st := []) C (c_X12_in l G τ ((x130 : Int32).toInt64) ((-1)) ((x132 : Int32).toInt64) iτ ) q4_190 q4_188 q4_189 q1_7 (by decide +kernel) rfl (by decide) (by decide) rfl (Nat.le_of_ble_eq_true rfl) dX12_marks_129 ?_
        rintro _ τ133 ⟨x136, rfl, i134, f135, b137, h139⟩
        have g138 : Fr MS_X12_marks AS_X12_marks σ τ133 := Fr.call (fτ) f135 (by decide)
        have f140 := tl_i x130
        have f141 := kl_m1
        have f142 := tl_i x132
        have q143 := (iv_any x132)
        show MW p l e _ s m args below meth c _ 8 G 0 0 132 [some (.ref (G.1 22 0)), some (.int a1), some (.int a2), some (.int a3), some (.int a4), some (.int y5), none, none] [.int x136] τ133
        refine m_if_ne (tgt := 138) C dX12_marks_132 (by decide) (fun c144 => ?_) (fun c144 => ?_)
        · have f145 : x136.toInt ≠ 0 := by
            have q : _ := c144
            simp only [ti_nle, ti_nlt, ti_le, ti_lt, ti_eq, ti_ne, Classical.not_not, kt_0] at q
            omega
          have b146 : IV x136 1 1 := ⟨by have q1 := b137; have q2 := kc_0; omega, by have q1 := b137; have q2 := kc_0; omega⟩
          have b147 : IV x130 (-1) 2147483647 := ⟨by have q1 := (iv_any x130); omega, by have q1 := (iv_any x130); omega⟩
          obtain ⟨x148, ex148⟩ : ∃ y : Int32, y = y5 + 1 := ⟨_, rfl⟩
          have tx148 : x148.toInt = y5.toInt + 1 := by rw [ex148, ti_addv b124 kc_1 (by decide), kt_1]
          have b149 : IV x148 1 7 := by rw [ex148]; exact iv_add b124 kc_1 (by decide)
          refine m_iinc (v := x148) (L1 := [some (.ref (G.1 22 0)), some (.int a1), some (.int a2), some (.int a3), some (.int a4), some (.int x148), none, none]) C dX12_marks_138 rfl (by rw [ex148]; rfl) (by decide) rfl rfl ?_
          refine m_goto (tgt := 93) C dX12_marks_141 (by decide) ?_
          exact ih93 τ133 x148 i134 g138 b_a1 b_a2 b_a3 b_a4 (iv_wk b149 (by decide)) (by have q := hm93; omega)
        · have f150 : x136.toInt = 0 := by
            have q : _ := c144
            simp only [ti_nle, ti_nlt, ti_le, ti_lt, ti_eq, ti_ne, Classical.not_not, kt_0] at q
            omega
          have b151 : IV x136 0 0 := ⟨by have q1 := b137; have q2 := kc_0; omega, by have q1 := b137; have q2 := kc_0; omega⟩
          refine m_ldc (v := (-1000001)) C dX12_marks_135 q4_192 ?_
          exact m_iret C hr hlk (by decide) (by decide) dX12_marks_137 ⟨_, rfl, i134, g138, (iv_wk kc_m1000001 (by decide))⟩
  refine m_aload_n C dX12_marks_0 rfl rfl ?_
  refine m_callV (n := 0) (ci := 11) (st := []) C (c_X12_isTower l G σ  hI ) (by decide) (by decide) rfl rfl rfl q5_67 q5_64 q5_66 q0_38 q1_7 (by decide +kernel) rfl (by decide) (by decide) rfl (Nat.le_of_ble_eq_true rfl) dX12_marks_1 ?_
  rintro _ τ152 ⟨x155, rfl, i153, f154, b156⟩
  have g157 : Fr MS_X12_marks AS_X12_marks σ τ152 := Fr.call (Fr.rf) f154 (by decide)
  show MW p l e _ s m args below meth c _ 8 G 0 0 4 [some (.ref (G.1 22 0)), some (.int a1), some (.int a2), some (.int a3), some (.int a4), none, none, none] [.int x155] τ152
  refine m_if_ne (tgt := 10) C dX12_marks_4 (by decide) (fun c159 => ?_) (fun c159 => ?_)
  · have f160 : x155.toInt ≠ 0 := by
      have q : _ := c159
      simp only [ti_nle, ti_nlt, ti_le, ti_lt, ti_eq, ti_ne, Classical.not_not, kt_0] at q
      omega
    have b161 : IV x155 1 1 := ⟨by have q1 := b156; have q2 := kc_0; omega, by have q1 := b156; have q2 := kc_0; omega⟩
    refine m_iload_n C dX12_marks_10 rfl rfl ?_
    refine m_callS (n := 1) (st := []) C (c_X12_isRow l G τ152 (a1) i153 ) q4_186 q4_184 q4_185 q1_7 (by decide +kernel) rfl (by decide) (by decide) rfl (Nat.le_of_ble_eq_true rfl) dX12_marks_11 ?_
    rintro _ τ162 ⟨x165, rfl, i163, f164, b166, h168⟩
    have g167 : Fr MS_X12_marks AS_X12_marks σ τ162 := Fr.call (g157) f164 (by decide)
    show MW p l e _ s m args below meth c _ 8 G 0 0 14 [some (.ref (G.1 22 0)), some (.int a1), some (.int a2), some (.int a3), some (.int a4), none, none, none] [.int x165] τ162
    refine m_if_eq (tgt := 51) C dX12_marks_14 (by decide) (fun c169 => ?_) (fun c169 => ?_)
    · have f170 : x165.toInt = 0 := by
        have q : _ := c169
        simp only [ti_nle, ti_nlt, ti_le, ti_lt, ti_eq, ti_ne, Classical.not_not, kt_0] at q
        omega
      have b171 : IV x165 0 0 := ⟨by have q1 := b166; have q2 := kc_0; omega, by have q1 := b166; have q2 := kc_0; omega⟩
      refine m_ldc (v := (-1000001)) C dX12_marks_51 q4_192 ?_
      exact m_iret C hr hlk (by decide) (by decide) dX12_marks_53 ⟨_, rfl, i163, g167, (iv_wk kc_m1000001 (by decide))⟩
    · have f172 : x165.toInt ≠ 0 := by
        have q : _ := c169
        simp only [ti_nle, ti_nlt, ti_le, ti_lt, ti_eq, ti_ne, Classical.not_not, kt_0] at q
        omega
      have b173 : IV x165 1 1 := ⟨by have q1 := b166; have q2 := kc_0; omega, by have q1 := b166; have q2 := kc_0; omega⟩
      have b174 : IV a1 0 7 := ⟨by have q1 := (iv_any a1); omega, by have q1 := (iv_any a1); omega⟩
      refine m_iload_n C dX12_marks_17 rfl rfl ?_
      refine m_i2l C dX12_marks_18 ?_
      refine m_ldc2 (v := (-999)) C dX12_marks_19 q5_155 ?_
      refine m_ldc2 (v := 999) C dX12_marks_22 q5_156 ?_
      refine m_callS (n := 3) (st := []) C (c_X12_in l G τ162 ((a2 : Int32).toInt64) ((-999)) (999) i163 ) q4_190 q4_188 q4_189 q1_7 (by decide +kernel) rfl (by decide) (by decide) rfl (Nat.le_of_ble_eq_true rfl) dX12_marks_25 ?_
      rintro _ τ175 ⟨x178, rfl, i176, f177, b179, h181⟩
      have g180 : Fr MS_X12_marks AS_X12_marks σ τ175 := Fr.call (g167) f177 (by decide)
      have f182 := tl_i a2
      have f183 := kl_m999
      have f184 := kl_999
      show MW p l e _ s m args below meth c _ 8 G 0 0 28 [some (.ref (G.1 22 0)), some (.int a1), some (.int a2), some (.int a3), some (.int a4), none, none, none] [.int x178] τ175
      refine m_if_eq (tgt := 51) C dX12_marks_28 (by decide) (fun c185 => ?_) (fun c185 => ?_)
      · have f186 : x178.toInt = 0 := by
          have q : _ := c185
          simp only [ti_nle, ti_nlt, ti_le, ti_lt, ti_eq, ti_ne, Classical.not_not, kt_0] at q
          omega
        have b187 : IV x178 0 0 := ⟨by have q1 := b179; have q2 := kc_0; omega, by have q1 := b179; have q2 := kc_0; omega⟩
        refine m_ldc (v := (-1000001)) C dX12_marks_51 q4_192 ?_
        exact m_iret C hr hlk (by decide) (by decide) dX12_marks_53 ⟨_, rfl, i176, g180, (iv_wk kc_m1000001 (by decide))⟩
      · have f188 : x178.toInt ≠ 0 := by
          have q : _ := c185
          simp only [ti_nle, ti_nlt, ti_le, ti_lt, ti_eq, ti_ne, Classical.not_not, kt_0] at q
          omega
        have b189 : IV x178 1 1 := ⟨by have q1 := b179; have q2 := kc_0; omega, by have q1 := b179; have q2 := kc_0; omega⟩
        have b190 : IV a2 (-999) 999 := ⟨by have q1 := (iv_any a2); omega, by have q1 := (iv_any a2); omega⟩
        refine m_iload_n C dX12_marks_31 rfl rfl ?_
        refine m_i2l C dX12_marks_32 ?_
        refine m_ldc2 (v := (-999)) C dX12_marks_33 q5_155 ?_
        refine m_ldc2 (v := 999) C dX12_marks_36 q5_156 ?_
        refine m_callS (n := 3) (st := []) C (c_X12_in l G τ175 ((a3 : Int32).toInt64) ((-999)) (999) i176 ) q4_190 q4_188 q4_189 q1_7 (by decide +kernel) rfl (by decide) (by decide) rfl (Nat.le_of_ble_eq_true rfl) dX12_marks_39 ?_
        rintro _ τ191 ⟨x194, rfl, i192, f193, b195, h197⟩
        have g196 : Fr MS_X12_marks AS_X12_marks σ τ191 := Fr.call (g180) f193 (by decide)
        have f198 := tl_i a3
        have f199 := kl_m999
        have f200 := kl_999
        show MW p l e _ s m args below meth c _ 8 G 0 0 42 [some (.ref (G.1 22 0)), some (.int a1), some (.int a2), some (.int a3), some (.int a4), none, none, none] [.int x194] τ191
        refine m_if_eq (tgt := 51) C dX12_marks_42 (by decide) (fun c201 => ?_) (fun c201 => ?_)
        · have f202 : x194.toInt = 0 := by
            have q : _ := c201
            simp only [ti_nle, ti_nlt, ti_le, ti_lt, ti_eq, ti_ne, Classical.not_not, kt_0] at q
            omega
          have b203 : IV x194 0 0 := ⟨by have q1 := b195; have q2 := kc_0; omega, by have q1 := b195; have q2 := kc_0; omega⟩
          refine m_ldc (v := (-1000001)) C dX12_marks_51 q4_192 ?_
          exact m_iret C hr hlk (by decide) (by decide) dX12_marks_53 ⟨_, rfl, i192, g196, (iv_wk kc_m1000001 (by decide))⟩
        · have f204 : x194.toInt ≠ 0 := by
            have q : _ := c201
            simp only [ti_nle, ti_nlt, ti_le, ti_lt, ti_eq, ti_ne, Classical.not_not, kt_0] at q
            omega
          have b205 : IV x194 1 1 := ⟨by have q1 := b195; have q2 := kc_0; omega, by have q1 := b195; have q2 := kc_0; omega⟩
          have b206 : IV a3 (-999) 999 := ⟨by have q1 := (iv_any a3); omega, by have q1 := (iv_any a3); omega⟩
          refine m_iload C dX12_marks_45 rfl ?_
          refine m_iconst (v := (-1)) C dX12_marks_47 (by decide) ?_
          refine m_icmp_ge (tgt := 54) C dX12_marks_48 (by decide) (fun c207 => ?_) (fun c207 => ?_)
          · have f208 : -1 ≤ a4.toInt := by
              have q : _ := c207
              simp only [ti_nle, ti_nlt, ti_le, ti_lt, ti_eq, ti_ne, Classical.not_not, kt_m1] at q
              omega
            have b209 : IV a4 (-1) 2147483647 := ⟨by have q1 := kc_m1; have q2 := (iv_any a4); omega, by have q1 := kc_m1; have q2 := (iv_any a4); omega⟩
            refine m_aload_n C dX12_marks_54 rfl rfl ?_
            refine g_22_3 C q4_119 dX12_marks_55 ?_
            refine m_iload_n C dX12_marks_58 rfl rfl ?_
            refine al_26 C b174 (by decide) rfl dX12_marks_59 ?_
            refine m_topi (fun x210 ex210 => ?_)
            refine m_if_ge (tgt := 69) C dX12_marks_60 (by decide) (fun c211 => ?_) (fun c211 => ?_)
            · have f212 : 0 ≤ x210.toInt := by
                have q : _ := c211
                simp only [ti_nle, ti_nlt, ti_le, ti_lt, ti_eq, ti_ne, Classical.not_not, kt_0] at q
                omega
              have b213 : IV x210 0 2147483647 := ⟨by have q1 := kc_0; have q2 := (iv_any x210); omega, by have q1 := kc_0; have q2 := (iv_any x210); omega⟩
              refine m_aload_n C dX12_marks_69 rfl rfl ?_
              refine g_22_4 C q4_120 dX12_marks_70 ?_
              refine m_iload_n C dX12_marks_73 rfl rfl ?_
              refine al_27 C b174 (by decide) rfl dX12_marks_74 ?_
              refine m_topi (fun x214 ex214 => ?_)
              have b215 : IV x214 0 40 := by rw [ex214]; exact i192.1 27 0 _
              refine m_aload_n C dX12_marks_75 rfl rfl ?_
              refine g_22_0 C q4_116 dX12_marks_76 ?_
              refine m_iconst (v := 2) C dX12_marks_79 (by decide) ?_
              refine al_23 C kc_2 (by decide) kn_2 dX12_marks_80 ?_
              refine m_topi (fun x216 ex216 => ?_)
              have b217 : IV x216 0 7 := by rw [ex216]; exact i192.1 23 0 2
              refine m_icmp_ge (tgt := 90) C dX12_marks_81 (by decide) (fun c218 => ?_) (fun c218 => ?_)
              · have f219 : x216.toInt ≤ x214.toInt := by
                  have q : _ := c218
                  simp only [ti_nle, ti_nlt, ti_le, ti_lt, ti_eq, ti_ne, Classical.not_not] at q
                  omega
                refine m_iconst (v := 0) C dX12_marks_90 (by decide) ?_
                refine m_istore (L1 := [some (.ref (G.1 22 0)), some (.int a1), some (.int a2), some (.int a3), some (.int a4), some (.int 0), none, none]) C dX12_marks_91 (by decide) rfl rfl ?_
                exact J93 ((7 - (0 : Int32).toInt).toNat + 1) τ191 0 i192 g196 b174 b190 b206 b209 (iv_wk kc_0 (by decide)) (Nat.lt_succ_self _)
              · have f220 : x214.toInt < x216.toInt := by
                  have q : _ := c218
                  simp only [ti_nle, ti_nlt, ti_le, ti_lt, ti_eq, ti_ne, Classical.not_not] at q
                  omega
                have b221 : IV x214 0 6 := ⟨by have q1 := b215; have q2 := b217; omega, by have q1 := b215; have q2 := b217; omega⟩
                have b222 : IV x216 1 7 := ⟨by have q1 := b215; have q2 := b217; omega, by have q1 := b215; have q2 := b217; omega⟩
                refine m_aload_n C dX12_marks_84 rfl rfl ?_
                refine m_iconst (v := 2) C dX12_marks_85 (by decide) ?_
                refine m_callV (n := 1) (ci := 11) (st := []) C (c_X12_met l G τ191 (2) i192 (iv_wk kc_2 (by decide))) (by decide) (by decide) rfl rfl rfl q4_196 q4_193 q4_195 q0_26 q1_7 (by decide +kernel) rfl (by decide) (by decide) rfl (Nat.le_of_ble_eq_true rfl) dX12_marks_86 ?_
                rintro _ τ223 ⟨x226, rfl, i224, f225, b227, h229⟩
                have g228 : Fr MS_X12_marks AS_X12_marks σ τ223 := Fr.call (g196) f225 (by decide)
                have q230 := kt_2
                show MW p l e _ s m args below meth c _ 8 G 0 0 89 [some (.ref (G.1 22 0)), some (.int a1), some (.int a2), some (.int a3), some (.int a4), none, none, none] [.int x226] τ223
                exact m_iret C hr hlk (by decide) (by decide) dX12_marks_89 ⟨_, rfl, i224, g228, (iv_wk b227 (by decide))⟩
            · have f231 : x210.toInt < 0 := by
                have q : _ := c211
                simp only [ti_nle, ti_nlt, ti_le, ti_lt, ti_eq, ti_ne, Classical.not_not, kt_0] at q
                omega
              have b232 : IV x210 (-2147483648) (-1) := ⟨by have q1 := (iv_any x210); have q2 := kc_0; omega, by have q1 := (iv_any x210); have q2 := kc_0; omega⟩
              refine m_aload_n C dX12_marks_63 rfl rfl ?_
              refine m_iconst (v := 1) C dX12_marks_64 (by decide) ?_
              refine m_callV (n := 1) (ci := 11) (st := []) C (c_X12_met l G τ191 (1) i192 (iv_wk kc_1 (by decide))) (by decide) (by decide) rfl rfl rfl q4_196 q4_193 q4_195 q0_26 q1_7 (by decide +kernel) rfl (by decide) (by decide) rfl (Nat.le_of_ble_eq_true rfl) dX12_marks_65 ?_
              rintro _ τ233 ⟨x236, rfl, i234, f235, b237, h239⟩
              have g238 : Fr MS_X12_marks AS_X12_marks σ τ233 := Fr.call (g196) f235 (by decide)
              have q240 := kt_1
              show MW p l e _ s m args below meth c _ 8 G 0 0 68 [some (.ref (G.1 22 0)), some (.int a1), some (.int a2), some (.int a3), some (.int a4), none, none, none] [.int x236] τ233
              exact m_iret C hr hlk (by decide) (by decide) dX12_marks_68 ⟨_, rfl, i234, g238, (iv_wk b237 (by decide))⟩
          · have f241 : a4.toInt < -1 := by
              have q : _ := c207
              simp only [ti_nle, ti_nlt, ti_le, ti_lt, ti_eq, ti_ne, Classical.not_not, kt_m1] at q
              omega
            have b242 : IV a4 (-2147483648) (-2) := ⟨by have q1 := (iv_any a4); have q2 := kc_m1; omega, by have q1 := (iv_any a4); have q2 := kc_m1; omega⟩
            refine m_ldc (v := (-1000001)) C dX12_marks_51 q4_192 ?_
            exact m_iret C hr hlk (by decide) (by decide) dX12_marks_53 ⟨_, rfl, i192, g196, (iv_wk kc_m1000001 (by decide))⟩
  · have f243 : x155.toInt = 0 := by
      have q : _ := c159
      simp only [ti_nle, ti_nlt, ti_le, ti_lt, ti_eq, ti_ne, Classical.not_not, kt_0] at q
      omega
    have b244 : IV x155 0 0 := ⟨by have q1 := b156; have q2 := kc_0; omega, by have q1 := b156; have q2 := kc_0; omega⟩
    refine m_ldc (v := (-1000002)) C dX12_marks_7 q5_68 ?_
    exact m_iret C hr hlk (by decide) (by decide) dX12_marks_9 ⟨_, rfl, i153, g157, (iv_wk kc_m1000002 (by decide))⟩

abbrev MS_X12_fall : List (Nat × Nat) := []
abbrev AS_X12_fall : List Nat := [23]
set_option maxHeartbeats 4000000 in
set_option maxRecDepth 100000 in
theorem c_X12_fall (l : Launch) (G : Gt) (σ : Sg) (hI : Inv σ) : Mc l G yX12_fall cX12_fall 2 (some .int) 3 69 0 0 [.ref (G.1 22 0)] σ (PI fun r τ => Inv τ ∧ Fr MS_X12_fall AS_X12_fall σ τ ∧ IV r (-1000002) 99) := by
  refine Mc.of (L0 := [some (.ref (G.1 22 0)), none]) (by decide) (Nat.le_of_ble_eq_true rfl) rfl ?_
  intro p e s m args below meth c C hr hlk
  have C : Cx p s m args c cX12_fall 2 "LeanTowerModel" := C
  have k0 : (0 : Int32).toInt = 0 := by decide
  have k1 : (1 : Int32).toInt = 1 := by decide
  have J20 : ∀ (n : Nat) (τ : Sg) (y1 : Int32), Inv τ → Fr MS_X12_fall AS_X12_fall σ τ → IV y1 0 100 → (100 - y1.toInt).toNat < n → MW p l e { frames := 3, cells := 0, slots := 0, locals := 69 } s m args below meth c (MQ below (QP G (PI fun r τ => Inv τ ∧ Fr MS_X12_fall AS_X12_fall σ τ ∧ IV r (-1000002) 99)) args s 0 0 (aG G)) 2 G 0 0 20 [some (.ref (G.1 22 0)), some (.int y1)] [] τ := by
    intro n
    induction n with
    | zero => intro τ y1 iτ fτ b_y1 hm; exact absurd hm (Nat.not_lt_zero _)
    | succ n ih20 =>
      intro τ y1 iτ fτ b_y1 hm20
      refine m_iload_n C dX12_fall_20 rfl rfl ?_
      refine m_bipush (v := 100) C dX12_fall_21 (by decide) ?_
      refine m_icmp_ge (tgt := 57) C dX12_fall_23 (by decide) (fun c1 => ?_) (fun c1 => ?_)
      · have f2 : 100 ≤ y1.toInt := by
          have q : _ := c1
          simp only [ti_nle, ti_nlt, ti_le, ti_lt, ti_eq, ti_ne, Classical.not_not, kt_100] at q
          omega
        have b3 : IV y1 100 100 := ⟨by have q1 := kc_100; have q2 := b_y1; omega, by have q1 := kc_100; have q2 := b_y1; omega⟩
        refine m_ldc (v := (-1000000)) C dX12_fall_57 q5_70 ?_
        exact m_iret C hr hlk (by decide) (by decide) dX12_fall_59 ⟨_, rfl, iτ, fτ, (iv_wk kc_m1000000 (by decide))⟩
      · have f4 : y1.toInt < 100 := by
          have q : _ := c1
          simp only [ti_nle, ti_nlt, ti_le, ti_lt, ti_eq, ti_ne, Classical.not_not, kt_100] at q
          omega
        have b5 : IV y1 0 99 := ⟨by have q1 := b_y1; have q2 := kc_100; omega, by have q1 := b_y1; have q2 := kc_100; omega⟩
        refine m_aload_n C dX12_fall_26 rfl rfl ?_
        refine m_sipush (v := 200) C dX12_fall_27 (by decide) ?_
        have q6 := kt_200
        refine m_callV (n := 1) (ci := 11) (st := []) C (c_X12_worstOf l G τ (200) iτ (iv_wk kc_200 (by decide)) (by omega)) (by decide) (by decide) rfl rfl rfl q5_78 q5_75 q5_77 q0_40 q1_7 (by decide +kernel) rfl (by decide) (by decide) rfl (Nat.le_of_ble_eq_true rfl) dX12_fall_30 ?_
        rintro _ τ7 ⟨x10, rfl, i8, f9, b11⟩
        have g12 : Fr MS_X12_fall AS_X12_fall σ τ7 := Fr.call (fτ) f9 (by decide)
        show MW p l e _ s m args below meth c _ 2 G 0 0 33 [some (.ref (G.1 22 0)), some (.int y1)] [.int x10] τ7
        refine m_aload_n C dX12_fall_33 rfl rfl ?_
        refine g_22_0 C q4_116 dX12_fall_34 ?_
        refine m_iconst (v := 1) C dX12_fall_37 (by decide) ?_
        refine al_23 C kc_1 (by decide) kn_1 dX12_fall_38 ?_
        refine m_topi (fun x14 ex14 => ?_)
        refine m_icmp_le (tgt := 44) C dX12_fall_39 (by decide) (fun c15 => ?_) (fun c15 => ?_)
        · have f16 : x10.toInt ≤ x14.toInt := by
            have q : _ := c15
            simp only [ti_nle, ti_nlt, ti_le, ti_lt, ti_eq, ti_ne, Classical.not_not] at q
            omega
          refine m_aload_n C dX12_fall_44 rfl rfl ?_
          refine m_sipush (v := 200) C dX12_fall_45 (by decide) ?_
          have q17 := kt_200
          refine m_callV (n := 1) (ci := 11) (st := []) C (c_X12_creep l G τ7 (200) i8 (iv_wk kc_200 (by decide)) (by omega)) (by decide) (by decide) rfl rfl rfl q5_107 q5_104 q5_106 q0_44 q1_7 (by decide +kernel) rfl (by decide) (by decide) rfl (Nat.le_of_ble_eq_true rfl) dX12_fall_48 ?_
          rintro _ τ18 ⟨rfl, i19, f20⟩
          have g23 : Fr MS_X12_fall AS_X12_fall σ τ18 := Fr.call (g12) f20 (by decide)
          show MW p l e _ s m args below meth c _ 2 G 0 0 51 [some (.ref (G.1 22 0)), some (.int y1)] [] τ18
          obtain ⟨x25, ex25⟩ : ∃ y : Int32, y = y1 + 1 := ⟨_, rfl⟩
          have tx25 : x25.toInt = y1.toInt + 1 := by rw [ex25, ti_addv b5 kc_1 (by decide), kt_1]
          have b26 : IV x25 1 100 := by rw [ex25]; exact iv_add b5 kc_1 (by decide)
          refine m_iinc (v := x25) (L1 := [some (.ref (G.1 22 0)), some (.int x25)]) C dX12_fall_51 rfl (by rw [ex25]; rfl) (by decide) rfl rfl ?_
          refine m_goto (tgt := 20) C dX12_fall_54 (by decide) ?_
          exact ih20 τ18 x25 i19 g23 (iv_wk b26 (by decide)) (by have q := hm20; omega)
        · have f27 : x14.toInt < x10.toInt := by
            have q : _ := c15
            simp only [ti_nle, ti_nlt, ti_le, ti_lt, ti_eq, ti_ne, Classical.not_not] at q
            omega
          have b28 : IV x14 (-2147483648) 2147483646 := ⟨by have q1 := (iv_any x14); have q2 := b11; omega, by have q1 := (iv_any x14); have q2 := b11; omega⟩
          have b29 : IV x10 (-2147483647) 2147483647 := ⟨by have q1 := (iv_any x14); have q2 := b11; omega, by have q1 := (iv_any x14); have q2 := b11; omega⟩
          refine m_iload_n C dX12_fall_42 rfl rfl ?_
          exact m_iret C hr hlk (by decide) (by decide) dX12_fall_43 ⟨_, rfl, i8, g12, (iv_wk b5 (by decide))⟩
  refine m_aload_n C dX12_fall_0 rfl rfl ?_
  refine m_callV (n := 0) (ci := 11) (st := []) C (c_X12_isTower l G σ  hI ) (by decide) (by decide) rfl rfl rfl q5_67 q5_64 q5_66 q0_38 q1_7 (by decide +kernel) rfl (by decide) (by decide) rfl (Nat.le_of_ble_eq_true rfl) dX12_fall_1 ?_
  rintro _ τ30 ⟨x33, rfl, i31, f32, b34⟩
  have g35 : Fr MS_X12_fall AS_X12_fall σ τ30 := Fr.call (Fr.rf) f32 (by decide)
  show MW p l e _ s m args below meth c _ 2 G 0 0 4 [some (.ref (G.1 22 0)), none] [.int x33] τ30
  refine m_if_ne (tgt := 10) C dX12_fall_4 (by decide) (fun c37 => ?_) (fun c37 => ?_)
  · have f38 : x33.toInt ≠ 0 := by
      have q : _ := c37
      simp only [ti_nle, ti_nlt, ti_le, ti_lt, ti_eq, ti_ne, Classical.not_not, kt_0] at q
      omega
    have b39 : IV x33 1 1 := ⟨by have q1 := b34; have q2 := kc_0; omega, by have q1 := b34; have q2 := kc_0; omega⟩
    refine m_aload_n C dX12_fall_10 rfl rfl ?_
    refine m_iconst (v := 0) C dX12_fall_11 (by decide) ?_
    refine m_sipush (v := 200) C dX12_fall_12 (by decide) ?_
    have q40 := kt_0
    have q41 := kt_200
    refine m_callV (n := 2) (ci := 11) (st := []) C (c_X12_copyAll l G τ30 (0) (200) i31 (iv_wk kc_0 (by decide)) (iv_wk kc_200 (by decide)) (by omega) (by omega) (by omega) (Or.inl (by omega))) (by decide) (by decide) rfl rfl rfl q5_38 q5_35 q5_37 q0_35 q1_7 (by decide +kernel) rfl (by decide) (by decide) rfl (Nat.le_of_ble_eq_true rfl) dX12_fall_15 ?_
    rintro _ τ42 ⟨rfl, i43, f44, h48⟩
    have g47 : Fr MS_X12_fall AS_X12_fall σ τ42 := Fr.call (g35) f44 (by decide)
    show MW p l e _ s m args below meth c _ 2 G 0 0 18 [some (.ref (G.1 22 0)), none] [] τ42
    refine m_iconst (v := 0) C dX12_fall_18 (by decide) ?_
    refine m_istore_n (L1 := [some (.ref (G.1 22 0)), some (.int 0)]) C dX12_fall_19 rfl (by decide) rfl rfl ?_
    exact J20 ((100 - (0 : Int32).toInt).toNat + 1) τ42 0 i43 g47 (iv_wk kc_0 (by decide)) (Nat.lt_succ_self _)
  · have f49 : x33.toInt = 0 := by
      have q : _ := c37
      simp only [ti_nle, ti_nlt, ti_le, ti_lt, ti_eq, ti_ne, Classical.not_not, kt_0] at q
      omega
    have b50 : IV x33 0 0 := ⟨by have q1 := b34; have q2 := kc_0; omega, by have q1 := b34; have q2 := kc_0; omega⟩
    refine m_ldc (v := (-1000002)) C dX12_fall_7 q5_68 ?_
    exact m_iret C hr hlk (by decide) (by decide) dX12_fall_9 ⟨_, rfl, i31, g35, (iv_wk kc_m1000002 (by decide))⟩

abbrev MS_X12_image : List (Nat × Nat) := []
abbrev AS_X12_image : List Nat := [23, 24]
set_option maxHeartbeats 4000000 in
set_option maxRecDepth 100000 in
theorem c_X12_image (l : Launch) (G : Gt) (σ : Sg) (a1 : Int32) (hI : Inv σ) : Mc l G yX12_image cX12_image 2 (some .int) 1 25 0 0 [.ref (G.1 22 0), .int a1] σ (PI fun r τ => Inv τ ∧ Fr MS_X12_image AS_X12_image σ τ ∧ IV r (-1000002) 1) := by
  refine Mc.of (L0 := [some (.ref (G.1 22 0)), some (.int a1)]) (by decide) (Nat.le_of_ble_eq_true rfl) rfl ?_
  intro p e s m args below meth c C hr hlk
  have C : Cx p s m args c cX12_image 2 "LeanTowerModel" := C
  have k0 : (0 : Int32).toInt = 0 := by decide
  have k1 : (1 : Int32).toInt = 1 := by decide
  refine m_iload_n C dX12_image_0 rfl rfl ?_
  refine m_i2l C dX12_image_1 ?_
  refine m_lconst (v := 0) C dX12_image_2 (by decide) ?_
  refine m_lconst (v := 1) C dX12_image_3 (by decide) ?_
  refine m_callS (n := 3) (st := []) C (c_X12_in l G σ ((a1 : Int32).toInt64) (0) (1) hI ) q4_190 q4_188 q4_189 q1_7 (by decide +kernel) rfl (by decide) (by decide) rfl (Nat.le_of_ble_eq_true rfl) dX12_image_4 ?_
  rintro _ τ1 ⟨x4, rfl, i2, f3, b5, h7⟩
  have g6 : Fr MS_X12_image AS_X12_image σ τ1 := Fr.call (Fr.rf) f3 (by decide)
  have f8 := tl_i a1
  have f9 := kl_0
  have f10 := kl_1
  show MW p l e _ s m args below meth c _ 2 G 0 0 7 [some (.ref (G.1 22 0)), some (.int a1)] [.int x4] τ1
  refine m_if_ne (tgt := 13) C dX12_image_7 (by decide) (fun c11 => ?_) (fun c11 => ?_)
  · have f12 : x4.toInt ≠ 0 := by
      have q : _ := c11
      simp only [ti_nle, ti_nlt, ti_le, ti_lt, ti_eq, ti_ne, Classical.not_not, kt_0] at q
      omega
    have b13 : IV x4 1 1 := ⟨by have q1 := b5; have q2 := kc_0; omega, by have q1 := b5; have q2 := kc_0; omega⟩
    have b14 : IV a1 0 1 := ⟨by have q1 := (iv_any a1); omega, by have q1 := (iv_any a1); omega⟩
    refine m_aload_n C dX12_image_13 rfl rfl ?_
    refine m_callV (n := 0) (ci := 11) (st := []) C (c_X12_isTower l G τ1  i2 ) (by decide) (by decide) rfl rfl rfl q5_67 q5_64 q5_66 q0_38 q1_7 (by decide +kernel) rfl (by decide) (by decide) rfl (Nat.le_of_ble_eq_true rfl) dX12_image_14 ?_
    rintro _ τ15 ⟨x18, rfl, i16, f17, b19⟩
    have g20 : Fr MS_X12_image AS_X12_image σ τ15 := Fr.call (g6) f17 (by decide)
    show MW p l e _ s m args below meth c _ 2 G 0 0 17 [some (.ref (G.1 22 0)), some (.int a1)] [.int x18] τ15
    refine m_if_ne (tgt := 23) C dX12_image_17 (by decide) (fun c22 => ?_) (fun c22 => ?_)
    · have f23 : x18.toInt ≠ 0 := by
        have q : _ := c22
        simp only [ti_nle, ti_nlt, ti_le, ti_lt, ti_eq, ti_ne, Classical.not_not, kt_0] at q
        omega
      have b24 : IV x18 1 1 := ⟨by have q1 := b19; have q2 := kc_0; omega, by have q1 := b19; have q2 := kc_0; omega⟩
      refine m_aload_n C dX12_image_23 rfl rfl ?_
      refine m_iconst (v := 0) C dX12_image_24 (by decide) ?_
      refine m_bipush (v := 50) C dX12_image_25 (by decide) ?_
      refine m_iconst (v := 1) C dX12_image_27 (by decide) ?_
      refine m_iload_n C dX12_image_28 rfl rfl ?_
      refine m_iadd C dX12_image_29 ?_
      refine m_topi (fun x25 ex25 => ?_)
      have tx25 : x25.toInt = 1 + a1.toInt := by rw [ex25, ti_addv kc_1 b14 (by decide), kt_1]
      have b26 : IV x25 1 2 := by rw [ex25]; exact iv_add kc_1 b14 (by decide)
      refine m_imul C dX12_image_30 ?_
      refine m_topi (fun x27 ex27 => ?_)
      have tx27 : x27.toInt = 50 * x25.toInt := by rw [ex27, ti_mulv kc_50 b26 (by decide), kt_50]
      have b28 : IV x27 0 100 := by rw [ex27]; exact iv_mul kc_50 b26 (by decide)
      have q29 := kt_0
      refine m_callV (n := 2) (ci := 11) (st := []) C (c_X12_copyAll l G τ15 (0) (x27) i16 (iv_wk kc_0 (by decide)) (iv_wk b28 (by decide)) (by omega) (by omega) (by omega) (Or.inl (by omega))) (by decide) (by decide) rfl rfl rfl q5_38 q5_35 q5_37 q0_35 q1_7 (by decide +kernel) rfl (by decide) (by decide) rfl (Nat.le_of_ble_eq_true rfl) dX12_image_31 ?_
      rintro _ τ30 ⟨rfl, i31, f32, h36⟩
      have g35 : Fr MS_X12_image AS_X12_image σ τ30 := Fr.call (g20) f32 (by decide)
      show MW p l e _ s m args below meth c _ 2 G 0 0 34 [some (.ref (G.1 22 0)), some (.int a1)] [] τ30
      refine m_aload_n C dX12_image_34 rfl rfl ?_
      refine g_22_1 C q4_117 dX12_image_35 ?_
      refine m_iload_n C dX12_image_38 rfl rfl ?_
      refine m_iconst (v := 1) C dX12_image_39 (by decide) ?_
      refine as_24 C b14 (by decide) rfl dX12_image_40 ?_
      obtain ⟨x37, ex37⟩ : ∃ y : Int32, y = vp_nar .boolean 1 := ⟨_, rfl⟩
      rw [← ex37]
      refine m_tops (fun τ38 eτ38 => ?_)
      have i39 : Inv τ38 := eτ38 ▸ Inv.putF i31 (by decide) rfl
      have f40 : Fr MS_X12_image AS_X12_image σ τ38 := eτ38 ▸ Fr.put (g35) (Or.inr (by decide))
      refine m_iconst (v := 1) C dX12_image_41 (by decide) ?_
      exact m_iret C hr hlk (by decide) (by decide) dX12_image_42 ⟨_, rfl, i39, f40, (iv_wk kc_1 (by decide))⟩
    · have f41 : x18.toInt = 0 := by
        have q : _ := c22
        simp only [ti_nle, ti_nlt, ti_le, ti_lt, ti_eq, ti_ne, Classical.not_not, kt_0] at q
        omega
      have b42 : IV x18 0 0 := ⟨by have q1 := b19; have q2 := kc_0; omega, by have q1 := b19; have q2 := kc_0; omega⟩
      refine m_ldc (v := (-1000002)) C dX12_image_20 q5_68 ?_
      exact m_iret C hr hlk (by decide) (by decide) dX12_image_22 ⟨_, rfl, i16, g20, (iv_wk kc_m1000002 (by decide))⟩
  · have f43 : x4.toInt = 0 := by
      have q : _ := c11
      simp only [ti_nle, ti_nlt, ti_le, ti_lt, ti_eq, ti_ne, Classical.not_not, kt_0] at q
      omega
    have b44 : IV x4 0 0 := ⟨by have q1 := b5; have q2 := kc_0; omega, by have q1 := b5; have q2 := kc_0; omega⟩
    refine m_ldc (v := (-1000001)) C dX12_image_10 q4_192 ?_
    exact m_iret C hr hlk (by decide) (by decide) dX12_image_12 ⟨_, rfl, i2, g6, (iv_wk kc_m1000001 (by decide))⟩

abbrev MS_X12_restore : List (Nat × Nat) := [(22, 9)]
abbrev AS_X12_restore : List Nat := [23]
set_option maxHeartbeats 4000000 in
set_option maxRecDepth 100000 in
theorem c_X12_restore (l : Launch) (G : Gt) (σ : Sg) (a1 : Int32) (hI : Inv σ) : Mc l G yX12_restore cX12_restore 2 (some .int) 1 25 0 0 [.ref (G.1 22 0), .int a1] σ (PI fun r τ => Inv τ ∧ Fr MS_X12_restore AS_X12_restore σ τ ∧ IV r (-1000002) 1) := by
  refine Mc.of (L0 := [some (.ref (G.1 22 0)), some (.int a1)]) (by decide) (Nat.le_of_ble_eq_true rfl) rfl ?_
  intro p e s m args below meth c C hr hlk
  have C : Cx p s m args c cX12_restore 2 "LeanTowerModel" := C
  have k0 : (0 : Int32).toInt = 0 := by decide
  have k1 : (1 : Int32).toInt = 1 := by decide
  refine m_iload_n C dX12_restore_0 rfl rfl ?_
  refine m_i2l C dX12_restore_1 ?_
  refine m_lconst (v := 0) C dX12_restore_2 (by decide) ?_
  refine m_lconst (v := 1) C dX12_restore_3 (by decide) ?_
  refine m_callS (n := 3) (st := []) C (c_X12_in l G σ ((a1 : Int32).toInt64) (0) (1) hI ) q4_190 q4_188 q4_189 q1_7 (by decide +kernel) rfl (by decide) (by decide) rfl (Nat.le_of_ble_eq_true rfl) dX12_restore_4 ?_
  rintro _ τ1 ⟨x4, rfl, i2, f3, b5, h7⟩
  have g6 : Fr MS_X12_restore AS_X12_restore σ τ1 := Fr.call (Fr.rf) f3 (by decide)
  have f8 := tl_i a1
  have f9 := kl_0
  have f10 := kl_1
  show MW p l e _ s m args below meth c _ 2 G 0 0 7 [some (.ref (G.1 22 0)), some (.int a1)] [.int x4] τ1
  refine m_if_ne (tgt := 13) C dX12_restore_7 (by decide) (fun c11 => ?_) (fun c11 => ?_)
  · have f12 : x4.toInt ≠ 0 := by
      have q : _ := c11
      simp only [ti_nle, ti_nlt, ti_le, ti_lt, ti_eq, ti_ne, Classical.not_not, kt_0] at q
      omega
    have b13 : IV x4 1 1 := ⟨by have q1 := b5; have q2 := kc_0; omega, by have q1 := b5; have q2 := kc_0; omega⟩
    have b14 : IV a1 0 1 := ⟨by have q1 := (iv_any a1); omega, by have q1 := (iv_any a1); omega⟩
    refine m_aload_n C dX12_restore_13 rfl rfl ?_
    refine g_22_1 C q4_117 dX12_restore_14 ?_
    refine m_iload_n C dX12_restore_17 rfl rfl ?_
    refine al_24 C b14 (by decide) rfl dX12_restore_18 ?_
    refine m_topi (fun x15 ex15 => ?_)
    refine m_if_ne (tgt := 25) C dX12_restore_19 (by decide) (fun c16 => ?_) (fun c16 => ?_)
    · have f17 : x15.toInt ≠ 0 := by
        have q : _ := c16
        simp only [ti_nle, ti_nlt, ti_le, ti_lt, ti_eq, ti_ne, Classical.not_not, kt_0] at q
        omega
      refine m_aload_n C dX12_restore_25 rfl rfl ?_
      refine m_bipush (v := 50) C dX12_restore_26 (by decide) ?_
      refine m_iconst (v := 1) C dX12_restore_28 (by decide) ?_
      refine m_iload_n C dX12_restore_29 rfl rfl ?_
      refine m_iadd C dX12_restore_30 ?_
      refine m_topi (fun x18 ex18 => ?_)
      have tx18 : x18.toInt = 1 + a1.toInt := by rw [ex18, ti_addv kc_1 b14 (by decide), kt_1]
      have b19 : IV x18 1 2 := by rw [ex18]; exact iv_add kc_1 b14 (by decide)
      refine m_imul C dX12_restore_31 ?_
      refine m_topi (fun x20 ex20 => ?_)
      have tx20 : x20.toInt = 50 * x18.toInt := by rw [ex20, ti_mulv kc_50 b19 (by decide), kt_50]
      have b21 : IV x20 0 100 := by rw [ex20]; exact iv_mul kc_50 b19 (by decide)
      refine m_iconst (v := 0) C dX12_restore_32 (by decide) ?_
      have q22 := kt_0
      refine m_callV (n := 2) (ci := 11) (st := []) C (c_X12_copyAll l G τ1 (x20) (0) i2 (iv_wk b21 (by decide)) (iv_wk kc_0 (by decide)) (by omega) (by omega) (by omega) (Or.inl (by omega))) (by decide) (by decide) rfl rfl rfl q5_38 q5_35 q5_37 q0_35 q1_7 (by decide +kernel) rfl (by decide) (by decide) rfl (Nat.le_of_ble_eq_true rfl) dX12_restore_33 ?_
      rintro _ τ23 ⟨rfl, i24, f25, h29⟩
      have g28 : Fr MS_X12_restore AS_X12_restore σ τ23 := Fr.call (g6) f25 (by decide)
      show MW p l e _ s m args below meth c _ 2 G 0 0 36 [some (.ref (G.1 22 0)), some (.int a1)] [] τ23
      refine m_aload_n C dX12_restore_36 rfl rfl ?_
      refine m_iconst (v := 0) C dX12_restore_37 (by decide) ?_
      refine p_22_9 C q4_125 dX12_restore_38 ?_
      refine m_tops (fun τ30 eτ30 => ?_)
      have i31 : Inv τ30 := eτ30 ▸ Inv.put i24 (by decide) (iv_wk kc_0 (by decide))
      have f32 : Fr MS_X12_restore AS_X12_restore σ τ30 := eτ30 ▸ Fr.put (g28) (Or.inl (by decide))
      refine m_iconst (v := 1) C dX12_restore_41 (by decide) ?_
      exact m_iret C hr hlk (by decide) (by decide) dX12_restore_42 ⟨_, rfl, i31, f32, (iv_wk kc_1 (by decide))⟩
    · have f33 : x15.toInt = 0 := by
        have q : _ := c16
        simp only [ti_nle, ti_nlt, ti_le, ti_lt, ti_eq, ti_ne, Classical.not_not, kt_0] at q
        omega
      have b34 : IV x15 0 0 := ⟨by have q1 := (iv_any x15); have q2 := kc_0; omega, by have q1 := (iv_any x15); have q2 := kc_0; omega⟩
      refine m_ldc (v := (-1000002)) C dX12_restore_22 q5_68 ?_
      exact m_iret C hr hlk (by decide) (by decide) dX12_restore_24 ⟨_, rfl, i2, g6, (iv_wk kc_m1000002 (by decide))⟩
  · have f35 : x4.toInt = 0 := by
      have q : _ := c11
      simp only [ti_nle, ti_nlt, ti_le, ti_lt, ti_eq, ti_ne, Classical.not_not, kt_0] at q
      omega
    have b36 : IV x4 0 0 := ⟨by have q1 := b5; have q2 := kc_0; omega, by have q1 := b5; have q2 := kc_0; omega⟩
    refine m_ldc (v := (-1000001)) C dX12_restore_10 q4_192 ?_
    exact m_iret C hr hlk (by decide) (by decide) dX12_restore_12 ⟨_, rfl, i2, g6, (iv_wk kc_m1000001 (by decide))⟩

abbrev MS_X12_feed : List (Nat × Nat) := [(22, 6)]
abbrev AS_X12_feed : List Nat := [28]
set_option maxHeartbeats 4000000 in
set_option maxRecDepth 100000 in
theorem c_X12_feed (l : Launch) (G : Gt) (σ : Sg) (a1 : Int64) (a2 : Int32) (hI : Inv σ) : Mc l G yX12_feed cX12_feed 5 (some .int) 1 25 0 0 [.ref (G.1 22 0), .long a1, .int a2] σ (PI fun r τ => Inv τ ∧ Fr MS_X12_feed AS_X12_feed σ τ ∧ IV r (-1000003) 400) := by
  refine Mc.of (L0 := [some (.ref (G.1 22 0)), some (.long a1), none, some (.int a2), none]) (by decide) (Nat.le_of_ble_eq_true rfl) rfl ?_
  intro p e s m args below meth c C hr hlk
  have C : Cx p s m args c cX12_feed 5 "LeanTowerModel" := C
  have k0 : (0 : Int32).toInt = 0 := by decide
  have k1 : (1 : Int32).toInt = 1 := by decide
  have J35 : ∀ (n : Nat) (τ : Sg) (y4 : Int32), Inv τ → Fr MS_X12_feed AS_X12_feed σ τ → IV a2 1 8 → IV y4 (-1) 7 → ((gV τ 22 0 6).toInt + y4.toInt ≤ 399) → (y4.toInt - (-1)).toNat < n → MW p l e { frames := 1, cells := 0, slots := 0, locals := 25 } s m args below meth c (MQ below (QP G (PI fun r τ => Inv τ ∧ Fr MS_X12_feed AS_X12_feed σ τ ∧ IV r (-1000003) 400)) args s 0 0 (aG G)) 5 G 0 0 35 [some (.ref (G.1 22 0)), some (.long a1), none, none, some (.int y4)] [] τ := by
    intro n
    induction n with
    | zero => intro τ y4 iτ fτ b_a2 b_y4 n1 hm; exact absurd hm (Nat.not_lt_zero _)
    | succ n ih35 =>
      intro τ y4 iτ fτ b_a2 b_y4 n1 hm35
      have u2 : IV (gV τ 22 0 6) 0 400 := iτ.1 22 0 6
      refine m_iload C dX12_feed_35 rfl ?_
      refine m_if_lt (tgt := 77) C dX12_feed_37 (by decide) (fun c3 => ?_) (fun c3 => ?_)
      · have f4 : y4.toInt < 0 := by
          have q : _ := c3
          simp only [ti_nle, ti_nlt, ti_le, ti_lt, ti_eq, ti_ne, Classical.not_not, kt_0] at q
          omega
        have b5 : IV y4 (-1) (-1) := ⟨by have q1 := b_y4; have q2 := kc_0; omega, by have q1 := b_y4; have q2 := kc_0; omega⟩
        refine m_aload_n C dX12_feed_77 rfl rfl ?_
        refine g_22_6 C q4_122 dX12_feed_78 ?_
        refine m_eqs (w := (gV τ 22 0 6)) rfl ?_
        exact m_iret C hr hlk (by decide) (by decide) dX12_feed_81 ⟨_, rfl, iτ, fτ, (iv_wk u2 (by decide))⟩
      · have f6 : 0 ≤ y4.toInt := by
          have q : _ := c3
          simp only [ti_nle, ti_nlt, ti_le, ti_lt, ti_eq, ti_ne, Classical.not_not, kt_0] at q
          omega
        have b7 : IV y4 0 7 := ⟨by have q1 := kc_0; have q2 := b_y4; omega, by have q1 := kc_0; have q2 := b_y4; omega⟩
        refine m_aload_n C dX12_feed_40 rfl rfl ?_
        refine g_22_5 C q4_121 dX12_feed_41 ?_
        refine m_aload_n C dX12_feed_44 rfl rfl ?_
        refine g_22_6 C q4_122 dX12_feed_45 ?_
        refine m_eqs (w := (gV τ 22 0 6)) rfl ?_
        refine m_lload_n C dX12_feed_48 rfl rfl ?_
        refine m_bipush (v := 8) C dX12_feed_49 (by decide) ?_
        refine m_iload C dX12_feed_51 rfl ?_
        refine m_imul C dX12_feed_53 ?_
        refine m_topi (fun x8 ex8 => ?_)
        have tx8 : x8.toInt = 8 * y4.toInt := by rw [ex8, ti_mulv kc_8 b7 (by decide), kt_8]
        have b9 : IV x8 0 56 := by rw [ex8]; exact iv_mul kc_8 b7 (by decide)
        refine m_lshr C dX12_feed_54 ?_
        refine m_topl (fun w10 ew10 => ?_)
        refine m_ldc2 (v := 255) C dX12_feed_55 q4_223 ?_
        refine m_land C dX12_feed_58 ?_
        refine m_topl (fun w11 ew11 => ?_)
        refine m_l2i C dX12_feed_59 ?_
        refine m_topi (fun x12 ex12 => ?_)
        have b13 : IV (gV τ 22 0 6) 0 399 := ⟨by have q1 := u2; omega, by have q1 := u2; omega⟩
        refine as_28 C b13 (by decide) rfl dX12_feed_60 ?_
        refine m_tops (fun τ14 eτ14 => ?_)
        have i15 : Inv τ14 := eτ14 ▸ Inv.putF iτ (by decide) rfl
        have f16 : Fr MS_X12_feed AS_X12_feed σ τ14 := eτ14 ▸ Fr.put (fτ) (Or.inr (by decide))
        refine m_aload_n C dX12_feed_61 rfl rfl ?_
        refine m_dup C dX12_feed_62 rfl ?_
        refine g_22_6 C q4_122 dX12_feed_63 ?_
        refine m_eqs (w := (gV τ 22 0 6)) (show gV τ14 22 0 6 = (gV τ 22 0 6) from gV_put eτ14 rfl) ?_
        refine m_iconst (v := 1) C dX12_feed_66 (by decide) ?_
        refine m_iadd C dX12_feed_67 ?_
        refine m_topi (fun x17 ex17 => ?_)
        have tx17 : x17.toInt = (gV τ 22 0 6).toInt + 1 := by rw [ex17, ti_addv b13 kc_1 (by decide), kt_1]
        have b18 : IV x17 1 400 := by rw [ex17]; exact iv_add b13 kc_1 (by decide)
        refine p_22_6 C q4_122 dX12_feed_68 ?_
        refine m_tops (fun τ19 eτ19 => ?_)
        have i20 : Inv τ19 := eτ19 ▸ Inv.put i15 (by decide) (iv_wk b18 (by decide))
        have f21 : Fr MS_X12_feed AS_X12_feed σ τ19 := eτ19 ▸ Fr.put (f16) (Or.inl (by decide))
        obtain ⟨x22, ex22⟩ : ∃ y : Int32, y = y4 + (-1) := ⟨_, rfl⟩
        have tx22 : x22.toInt = y4.toInt + (-1) := by rw [ex22, ti_addv b7 kc_m1 (by decide), kt_m1]
        have b23 : IV x22 (-1) 6 := by rw [ex22]; exact iv_add b7 kc_m1 (by decide)
        refine m_iinc (v := x22) (L1 := [some (.ref (G.1 22 0)), some (.long a1), none, none, some (.int x22)]) C dX12_feed_71 rfl (by rw [ex22]; rfl) (by decide) rfl rfl ?_
        refine m_goto (tgt := 35) C dX12_feed_74 (by decide) ?_
        have q24 : (gV τ19 22 0 6).toInt = x17.toInt := congrArg Int32.toInt (show (gV τ19 22 0 6) = x17 from (show gV τ19 22 0 6 = x17 from gV_put eτ19 (gV_self _ _ _ _ _)))
        exact ih35 τ19 x22 i20 f21 b_a2 (iv_wk b23 (by decide)) (by omega) (by have q := hm35; omega)
  have u25 : IV (gV σ 22 0 6) 0 400 := hI.1 22 0 6
  refine m_iload_n C dX12_feed_0 rfl rfl ?_
  refine m_i2l C dX12_feed_1 ?_
  refine m_lconst (v := 1) C dX12_feed_2 (by decide) ?_
  refine m_ldc2 (v := 8) C dX12_feed_3 q4_221 ?_
  refine m_callS (n := 3) (st := []) C (c_X12_in l G σ ((a2 : Int32).toInt64) (1) (8) hI ) q4_190 q4_188 q4_189 q1_7 (by decide +kernel) rfl (by decide) (by decide) rfl (Nat.le_of_ble_eq_true rfl) dX12_feed_6 ?_
  rintro _ τ26 ⟨x29, rfl, i27, f28, b30, h32⟩
  have g31 : Fr MS_X12_feed AS_X12_feed σ τ26 := Fr.call (Fr.rf) f28 (by decide)
  have q33 : (gV τ26 22 0 6).toInt = (gV σ 22 0 6).toInt := congrArg Int32.toInt (show (gV τ26 22 0 6) = (gV σ 22 0 6) from (show gV τ26 22 0 6 = (gV σ 22 0 6) from (f28.1 22 0 (6) (by decide) (by decide)).trans rfl))
  have f34 := tl_i a2
  have f35 := kl_1
  have f36 := kl_8
  show MW p l e _ s m args below meth c _ 5 G 0 0 9 [some (.ref (G.1 22 0)), some (.long a1), none, some (.int a2), none] [.int x29] τ26
  refine m_if_ne (tgt := 15) C dX12_feed_9 (by decide) (fun c37 => ?_) (fun c37 => ?_)
  · have f38 : x29.toInt ≠ 0 := by
      have q : _ := c37
      simp only [ti_nle, ti_nlt, ti_le, ti_lt, ti_eq, ti_ne, Classical.not_not, kt_0] at q
      omega
    have b39 : IV x29 1 1 := ⟨by have q1 := b30; have q2 := kc_0; omega, by have q1 := b30; have q2 := kc_0; omega⟩
    have b40 : IV a2 1 8 := ⟨by have q1 := (iv_any a2); omega, by have q1 := (iv_any a2); omega⟩
    refine m_aload_n C dX12_feed_15 rfl rfl ?_
    refine g_22_6 C q4_122 dX12_feed_16 ?_
    refine m_eqs (w := (gV σ 22 0 6)) (show gV τ26 22 0 6 = (gV σ 22 0 6) from (f28.1 22 0 (6) (by decide) (by decide)).trans rfl) ?_
    refine m_iload_n C dX12_feed_19 rfl rfl ?_
    refine m_iadd C dX12_feed_20 ?_
    refine m_topi (fun x41 ex41 => ?_)
    have tx41 : x41.toInt = (gV σ 22 0 6).toInt + a2.toInt := by rw [ex41, ti_addv u25 b40 (by decide)]
    have b42 : IV x41 1 408 := by rw [ex41]; exact iv_add u25 b40 (by decide)
    refine m_sipush (v := 400) C dX12_feed_21 (by decide) ?_
    refine m_icmp_le (tgt := 30) C dX12_feed_24 (by decide) (fun c43 => ?_) (fun c43 => ?_)
    · have f44 : x41.toInt ≤ 400 := by
        have q : _ := c43
        simp only [ti_nle, ti_nlt, ti_le, ti_lt, ti_eq, ti_ne, Classical.not_not, kt_400] at q
        omega
      have b45 : IV x41 1 400 := ⟨by have q1 := b42; have q2 := kc_400; omega, by have q1 := b42; have q2 := kc_400; omega⟩
      refine m_iload_n C dX12_feed_30 rfl rfl ?_
      refine m_iconst (v := 1) C dX12_feed_31 (by decide) ?_
      refine m_isub C dX12_feed_32 ?_
      refine m_topi (fun x46 ex46 => ?_)
      have tx46 : x46.toInt = a2.toInt - 1 := by rw [ex46, ti_subv b40 kc_1 (by decide), kt_1]
      have b47 : IV x46 0 7 := by rw [ex46]; exact iv_sub b40 kc_1 (by decide)
      refine m_istore (L1 := [some (.ref (G.1 22 0)), some (.long a1), none, some (.int a2), some (.int x46)]) C dX12_feed_33 (by decide) rfl rfl ?_
      refine m_sub (L1 := [some (.ref (G.1 22 0)), some (.long a1), none, none, some (.int x46)]) ⟨rfl, ⟨rfl, ⟨rfl, trivial⟩⟩⟩ ?_
      exact J35 ((x46.toInt - (-1)).toNat + 1) τ26 x46 i27 g31 b40 (iv_wk b47 (by decide)) (by omega) (Nat.lt_succ_self _)
    · have f48 : 400 < x41.toInt := by
        have q : _ := c43
        simp only [ti_nle, ti_nlt, ti_le, ti_lt, ti_eq, ti_ne, Classical.not_not, kt_400] at q
        omega
      have b49 : IV x41 401 408 := ⟨by have q1 := kc_400; have q2 := b42; omega, by have q1 := kc_400; have q2 := b42; omega⟩
      refine m_ldc (v := (-1000003)) C dX12_feed_27 q4_222 ?_
      exact m_iret C hr hlk (by decide) (by decide) dX12_feed_29 ⟨_, rfl, i27, g31, (iv_wk kc_m1000003 (by decide))⟩
  · have f50 : x29.toInt = 0 := by
      have q : _ := c37
      simp only [ti_nle, ti_nlt, ti_le, ti_lt, ti_eq, ti_ne, Classical.not_not, kt_0] at q
      omega
    have b51 : IV x29 0 0 := ⟨by have q1 := b30; have q2 := kc_0; omega, by have q1 := b30; have q2 := kc_0; omega⟩
    refine m_ldc (v := (-1000001)) C dX12_feed_12 q4_192 ?_
    exact m_iret C hr hlk (by decide) (by decide) dX12_feed_14 ⟨_, rfl, i27, g31, (iv_wk kc_m1000001 (by decide))⟩

abbrev MS_X12_copy : List (Nat × Nat) := [(22, 8)]
abbrev AS_X12_copy : List Nat := [25, 29]
set_option maxHeartbeats 4000000 in
set_option maxRecDepth 100000 in
theorem c_X12_copy (l : Launch) (G : Gt) (σ : Sg) (a1 : Int32) (a2 : Int32) (a3 : Int32) (a4 : Int32) (a5 : Int32) (hI : Inv σ) : Mc l G yX12_copy cX12_copy 7 (some .int) 2 45 0 0 [.ref (G.1 22 0), .int a1, .int a2, .int a3, .int a4, .int a5] σ (PI fun r τ => Inv τ ∧ Fr MS_X12_copy AS_X12_copy σ τ ∧ IV r (-2147483648) 2147483647) := by
  refine Mc.of (L0 := [some (.ref (G.1 22 0)), some (.int a1), some (.int a2), some (.int a3), some (.int a4), some (.int a5), none]) (by decide) (Nat.le_of_ble_eq_true rfl) rfl ?_
  intro p e s m args below meth c C hr hlk
  have C : Cx p s m args c cX12_copy 7 "LeanTowerModel" := C
  have k0 : (0 : Int32).toInt = 0 := by decide
  have k1 : (1 : Int32).toInt = 1 := by decide
  have J157 : ∀ (n : Nat) (τ : Sg) (y6 : Int32), Inv τ → Fr MS_X12_copy AS_X12_copy σ τ → IV a1 0 7 → IV a2 0 40 → IV a3 0 7 → IV a4 0 40 → IV a5 0 40 → IV y6 0 40 → (a2.toInt + a5.toInt ≤ 40 ∧ a4.toInt + a5.toInt ≤ 40) → (40 - y6.toInt).toNat < n → MW p l e { frames := 2, cells := 0, slots := 0, locals := 45 } s m args below meth c (MQ below (QP G (PI fun r τ => Inv τ ∧ Fr MS_X12_copy AS_X12_copy σ τ ∧ IV r (-2147483648) 2147483647)) args s 0 0 (aG G)) 7 G 0 0 157 [some (.ref (G.1 22 0)), none, none, some (.int a3), some (.int a4), some (.int a5), some (.int y6)] [] τ := by
    intro n
    induction n with
    | zero => intro τ y6 iτ fτ b_a1 b_a2 b_a3 b_a4 b_a5 b_y6 n1 hm; exact absurd hm (Nat.not_lt_zero _)
    | succ n ih157 =>
      intro τ y6 iτ fτ b_a1 b_a2 b_a3 b_a4 b_a5 b_y6 n1 hm157
      refine m_iload C dX12_copy_157 rfl ?_
      refine m_iload C dX12_copy_159 rfl ?_
      refine m_icmp_ge (tgt := 192) C dX12_copy_161 (by decide) (fun c2 => ?_) (fun c2 => ?_)
      · have f3 : a5.toInt ≤ y6.toInt := by
          have q : _ := c2
          simp only [ti_nle, ti_nlt, ti_le, ti_lt, ti_eq, ti_ne, Classical.not_not] at q
          omega
        refine m_aload_n C dX12_copy_192 rfl rfl ?_
        refine m_iload C dX12_copy_193 rfl ?_
        refine m_callV (n := 1) (ci := 11) (st := []) C (c_X12_fine l G τ (a5) iτ ) (by decide) (by decide) rfl rfl rfl q4_201 q4_198 q4_200 q0_27 q1_7 (by decide +kernel) rfl (by decide) (by decide) rfl (Nat.le_of_ble_eq_true rfl) dX12_copy_195 ?_
        rintro _ τ4 ⟨x7, rfl, i5, f6, b8, h10⟩
        have g9 : Fr MS_X12_copy AS_X12_copy σ τ4 := Fr.call (fτ) f6 (by decide)
        show MW p l e _ s m args below meth c _ 7 G 0 0 198 [some (.ref (G.1 22 0)), none, none, some (.int a3), some (.int a4), some (.int a5), some (.int y6)] [.int x7] τ4
        exact m_iret C hr hlk (by decide) (by decide) dX12_copy_198 ⟨_, rfl, i5, g9, b8⟩
      · have f11 : y6.toInt < a5.toInt := by
          have q : _ := c2
          simp only [ti_nle, ti_nlt, ti_le, ti_lt, ti_eq, ti_ne, Classical.not_not] at q
          omega
        have b12 : IV y6 0 39 := ⟨by have q1 := b_y6; have q2 := b_a5; omega, by have q1 := b_y6; have q2 := b_a5; omega⟩
        have b13 : IV a5 1 40 := ⟨by have q1 := b_y6; have q2 := b_a5; omega, by have q1 := b_y6; have q2 := b_a5; omega⟩
        refine m_aload_n C dX12_copy_164 rfl rfl ?_
        refine g_22_2 C q4_118 dX12_copy_165 ?_
        refine m_bipush (v := 40) C dX12_copy_168 (by decide) ?_
        refine m_iload_n C dX12_copy_170 rfl rfl ?_
        refine m_imul C dX12_copy_171 ?_
        refine m_topi (fun x14 ex14 => ?_)
        have tx14 : x14.toInt = 40 * a3.toInt := by rw [ex14, ti_mulv kc_40 b_a3 (by decide), kt_40]
        have b15 : IV x14 0 280 := by rw [ex14]; exact iv_mul kc_40 b_a3 (by decide)
        refine m_iload C dX12_copy_172 rfl ?_
        refine m_iadd C dX12_copy_174 ?_
        refine m_topi (fun x16 ex16 => ?_)
        have tx16 : x16.toInt = x14.toInt + a4.toInt := by rw [ex16, ti_addv b15 b_a4 (by decide)]
        have b17 : IV x16 0 320 := by rw [ex16]; exact iv_add b15 b_a4 (by decide)
        refine m_iload C dX12_copy_175 rfl ?_
        refine m_iadd C dX12_copy_177 ?_
        refine m_topi (fun x18 ex18 => ?_)
        have tx18 : x18.toInt = x16.toInt + y6.toInt := by rw [ex18, ti_addv b17 b12 (by decide)]
        have b19 : IV x18 0 359 := by rw [ex18]; exact iv_add b17 b12 (by decide)
        refine m_aload_n C dX12_copy_178 rfl rfl ?_
        refine g_22_10 C q4_126 dX12_copy_179 ?_
        refine m_iload C dX12_copy_182 rfl ?_
        refine al_29 C b12 (by decide) rfl dX12_copy_184 ?_
        refine m_topi (fun x20 ex20 => ?_)
        have b21 : IV x18 0 319 := ⟨by have q1 := b19; omega, by have q1 := b19; omega⟩
        refine as_25 C b21 (by decide) rfl dX12_copy_185 ?_
        refine m_tops (fun τ22 eτ22 => ?_)
        have i23 : Inv τ22 := eτ22 ▸ Inv.putF iτ (by decide) rfl
        have f24 : Fr MS_X12_copy AS_X12_copy σ τ22 := eτ22 ▸ Fr.put (fτ) (Or.inr (by decide))
        obtain ⟨x25, ex25⟩ : ∃ y : Int32, y = y6 + 1 := ⟨_, rfl⟩
        have tx25 : x25.toInt = y6.toInt + 1 := by rw [ex25, ti_addv b12 kc_1 (by decide), kt_1]
        have b26 : IV x25 1 40 := by rw [ex25]; exact iv_add b12 kc_1 (by decide)
        refine m_iinc (v := x25) (L1 := [some (.ref (G.1 22 0)), none, none, some (.int a3), some (.int a4), some (.int a5), some (.int x25)]) C dX12_copy_186 rfl (by rw [ex25]; rfl) (by decide) rfl rfl ?_
        refine m_goto (tgt := 157) C dX12_copy_189 (by decide) ?_
        exact ih157 τ22 x25 i23 f24 b_a1 b_a2 b_a3 b_a4 (iv_wk b13 (by decide)) (iv_wk b26 (by decide)) (by omega) (by have q := hm157; omega)
  have J120 : ∀ (n : Nat) (τ : Sg) (y6 : Int32), Inv τ → Fr MS_X12_copy AS_X12_copy σ τ → IV a1 0 7 → IV a2 0 40 → IV a3 0 7 → IV a4 0 40 → IV a5 0 40 → IV y6 0 40 → (a2.toInt + a5.toInt ≤ 40 ∧ a4.toInt + a5.toInt ≤ 40) → (40 - y6.toInt).toNat < n → MW p l e { frames := 2, cells := 0, slots := 0, locals := 45 } s m args below meth c (MQ below (QP G (PI fun r τ => Inv τ ∧ Fr MS_X12_copy AS_X12_copy σ τ ∧ IV r (-2147483648) 2147483647)) args s 0 0 (aG G)) 7 G 0 0 120 [some (.ref (G.1 22 0)), some (.int a1), some (.int a2), some (.int a3), some (.int a4), some (.int a5), some (.int y6)] [] τ := by
    intro n
    induction n with
    | zero => intro τ y6 iτ fτ b_a1 b_a2 b_a3 b_a4 b_a5 b_y6 n27 hm; exact absurd hm (Nat.not_lt_zero _)
    | succ n ih120 =>
      intro τ y6 iτ fτ b_a1 b_a2 b_a3 b_a4 b_a5 b_y6 n27 hm120
      refine m_iload C dX12_copy_120 rfl ?_
      refine m_iload C dX12_copy_122 rfl ?_
      refine m_icmp_ge (tgt := 154) C dX12_copy_124 (by decide) (fun c28 => ?_) (fun c28 => ?_)
      · have f29 : a5.toInt ≤ y6.toInt := by
          have q : _ := c28
          simp only [ti_nle, ti_nlt, ti_le, ti_lt, ti_eq, ti_ne, Classical.not_not] at q
          omega
        refine m_iconst (v := 0) C dX12_copy_154 (by decide) ?_
        refine m_istore (L1 := [some (.ref (G.1 22 0)), some (.int a1), some (.int a2), some (.int a3), some (.int a4), some (.int a5), some (.int 0)]) C dX12_copy_155 (by decide) rfl rfl ?_
        refine m_sub (L1 := [some (.ref (G.1 22 0)), none, none, some (.int a3), some (.int a4), some (.int a5), some (.int 0)]) ⟨rfl, ⟨rfl, ⟨rfl, ⟨rfl, ⟨rfl, trivial⟩⟩⟩⟩⟩ ?_
        exact J157 ((40 - (0 : Int32).toInt).toNat + 1) τ 0 iτ fτ b_a1 b_a2 b_a3 b_a4 b_a5 (iv_wk kc_0 (by decide)) (by omega) (Nat.lt_succ_self _)
      · have f30 : y6.toInt < a5.toInt := by
          have q : _ := c28
          simp only [ti_nle, ti_nlt, ti_le, ti_lt, ti_eq, ti_ne, Classical.not_not] at q
          omega
        have b31 : IV y6 0 39 := ⟨by have q1 := b_y6; have q2 := b_a5; omega, by have q1 := b_y6; have q2 := b_a5; omega⟩
        have b32 : IV a5 1 40 := ⟨by have q1 := b_y6; have q2 := b_a5; omega, by have q1 := b_y6; have q2 := b_a5; omega⟩
        refine m_aload_n C dX12_copy_127 rfl rfl ?_
        refine g_22_10 C q4_126 dX12_copy_128 ?_
        refine m_iload C dX12_copy_131 rfl ?_
        refine m_aload_n C dX12_copy_133 rfl rfl ?_
        refine g_22_2 C q4_118 dX12_copy_134 ?_
        refine m_bipush (v := 40) C dX12_copy_137 (by decide) ?_
        refine m_iload_n C dX12_copy_139 rfl rfl ?_
        refine m_imul C dX12_copy_140 ?_
        refine m_topi (fun x33 ex33 => ?_)
        have tx33 : x33.toInt = 40 * a1.toInt := by rw [ex33, ti_mulv kc_40 b_a1 (by decide), kt_40]
        have b34 : IV x33 0 280 := by rw [ex33]; exact iv_mul kc_40 b_a1 (by decide)
        refine m_iload_n C dX12_copy_141 rfl rfl ?_
        refine m_iadd C dX12_copy_142 ?_
        refine m_topi (fun x35 ex35 => ?_)
        have tx35 : x35.toInt = x33.toInt + a2.toInt := by rw [ex35, ti_addv b34 b_a2 (by decide)]
        have b36 : IV x35 0 320 := by rw [ex35]; exact iv_add b34 b_a2 (by decide)
        refine m_iload C dX12_copy_143 rfl ?_
        refine m_iadd C dX12_copy_145 ?_
        refine m_topi (fun x37 ex37 => ?_)
        have tx37 : x37.toInt = x35.toInt + y6.toInt := by rw [ex37, ti_addv b36 b31 (by decide)]
        have b38 : IV x37 0 359 := by rw [ex37]; exact iv_add b36 b31 (by decide)
        have b39 : IV x37 0 319 := ⟨by have q1 := b38; omega, by have q1 := b38; omega⟩
        refine al_25 C b39 (by decide) rfl dX12_copy_146 ?_
        refine m_topi (fun x40 ex40 => ?_)
        refine as_29 C b31 (by decide) rfl dX12_copy_147 ?_
        refine m_tops (fun τ41 eτ41 => ?_)
        have i42 : Inv τ41 := eτ41 ▸ Inv.putF iτ (by decide) rfl
        have f43 : Fr MS_X12_copy AS_X12_copy σ τ41 := eτ41 ▸ Fr.put (fτ) (Or.inr (by decide))
        obtain ⟨x44, ex44⟩ : ∃ y : Int32, y = y6 + 1 := ⟨_, rfl⟩
        have tx44 : x44.toInt = y6.toInt + 1 := by rw [ex44, ti_addv b31 kc_1 (by decide), kt_1]
        have b45 : IV x44 1 40 := by rw [ex44]; exact iv_add b31 kc_1 (by decide)
        refine m_iinc (v := x44) (L1 := [some (.ref (G.1 22 0)), some (.int a1), some (.int a2), some (.int a3), some (.int a4), some (.int a5), some (.int x44)]) C dX12_copy_148 rfl (by rw [ex44]; rfl) (by decide) rfl rfl ?_
        refine m_goto (tgt := 120) C dX12_copy_151 (by decide) ?_
        exact ih120 τ41 x44 i42 f43 b_a1 b_a2 b_a3 b_a4 (iv_wk b32 (by decide)) (iv_wk b45 (by decide)) (by omega) (by have q := hm120; omega)
  refine m_iload_n C dX12_copy_0 rfl rfl ?_
  refine m_callS (n := 1) (st := []) C (c_X12_isRow l G σ (a1) hI ) q4_186 q4_184 q4_185 q1_7 (by decide +kernel) rfl (by decide) (by decide) rfl (Nat.le_of_ble_eq_true rfl) dX12_copy_1 ?_
  rintro _ τ46 ⟨x49, rfl, i47, f48, b50, h52⟩
  have g51 : Fr MS_X12_copy AS_X12_copy σ τ46 := Fr.call (Fr.rf) f48 (by decide)
  show MW p l e _ s m args below meth c _ 7 G 0 0 4 [some (.ref (G.1 22 0)), some (.int a1), some (.int a2), some (.int a3), some (.int a4), some (.int a5), none] [.int x49] τ46
  refine m_if_eq (tgt := 14) C dX12_copy_4 (by decide) (fun c53 => ?_) (fun c53 => ?_)
  · have f54 : x49.toInt = 0 := by
      have q : _ := c53
      simp only [ti_nle, ti_nlt, ti_le, ti_lt, ti_eq, ti_ne, Classical.not_not, kt_0] at q
      omega
    have b55 : IV x49 0 0 := ⟨by have q1 := b50; have q2 := kc_0; omega, by have q1 := b50; have q2 := kc_0; omega⟩
    refine m_ldc (v := (-1000001)) C dX12_copy_14 q4_192 ?_
    exact m_iret C hr hlk (by decide) (by decide) dX12_copy_16 ⟨_, rfl, i47, g51, (iv_wk kc_m1000001 (by decide))⟩
  · have f56 : x49.toInt ≠ 0 := by
      have q : _ := c53
      simp only [ti_nle, ti_nlt, ti_le, ti_lt, ti_eq, ti_ne, Classical.not_not, kt_0] at q
      omega
    have b57 : IV x49 1 1 := ⟨by have q1 := b50; have q2 := kc_0; omega, by have q1 := b50; have q2 := kc_0; omega⟩
    have b58 : IV a1 0 7 := ⟨by have q1 := (iv_any a1); omega, by have q1 := (iv_any a1); omega⟩
    refine m_iload_n C dX12_copy_7 rfl rfl ?_
    refine m_callS (n := 1) (st := []) C (c_X12_isRow l G τ46 (a3) i47 ) q4_186 q4_184 q4_185 q1_7 (by decide +kernel) rfl (by decide) (by decide) rfl (Nat.le_of_ble_eq_true rfl) dX12_copy_8 ?_
    rintro _ τ59 ⟨x62, rfl, i60, f61, b63, h65⟩
    have g64 : Fr MS_X12_copy AS_X12_copy σ τ59 := Fr.call (g51) f61 (by decide)
    show MW p l e _ s m args below meth c _ 7 G 0 0 11 [some (.ref (G.1 22 0)), some (.int a1), some (.int a2), some (.int a3), some (.int a4), some (.int a5), none] [.int x62] τ59
    refine m_if_ne (tgt := 17) C dX12_copy_11 (by decide) (fun c66 => ?_) (fun c66 => ?_)
    · have f67 : x62.toInt ≠ 0 := by
        have q : _ := c66
        simp only [ti_nle, ti_nlt, ti_le, ti_lt, ti_eq, ti_ne, Classical.not_not, kt_0] at q
        omega
      have b68 : IV x62 1 1 := ⟨by have q1 := b63; have q2 := kc_0; omega, by have q1 := b63; have q2 := kc_0; omega⟩
      have b69 : IV a3 0 7 := ⟨by have q1 := (iv_any a3); omega, by have q1 := (iv_any a3); omega⟩
      refine m_aload_n C dX12_copy_17 rfl rfl ?_
      refine g_22_3 C q4_119 dX12_copy_18 ?_
      refine m_iload_n C dX12_copy_21 rfl rfl ?_
      refine al_26 C b58 (by decide) rfl dX12_copy_22 ?_
      refine m_topi (fun x70 ex70 => ?_)
      refine m_if_lt (tgt := 35) C dX12_copy_23 (by decide) (fun c71 => ?_) (fun c71 => ?_)
      · have f72 : x70.toInt < 0 := by
          have q : _ := c71
          simp only [ti_nle, ti_nlt, ti_le, ti_lt, ti_eq, ti_ne, Classical.not_not, kt_0] at q
          omega
        have b73 : IV x70 (-2147483648) (-1) := ⟨by have q1 := (iv_any x70); have q2 := kc_0; omega, by have q1 := (iv_any x70); have q2 := kc_0; omega⟩
        refine m_aload_n C dX12_copy_35 rfl rfl ?_
        refine m_iconst (v := 1) C dX12_copy_36 (by decide) ?_
        refine m_callV (n := 1) (ci := 11) (st := []) C (c_X12_met l G τ59 (1) i60 (iv_wk kc_1 (by decide))) (by decide) (by decide) rfl rfl rfl q4_196 q4_193 q4_195 q0_26 q1_7 (by decide +kernel) rfl (by decide) (by decide) rfl (Nat.le_of_ble_eq_true rfl) dX12_copy_37 ?_
        rintro _ τ74 ⟨x77, rfl, i75, f76, b78, h80⟩
        have g79 : Fr MS_X12_copy AS_X12_copy σ τ74 := Fr.call (g64) f76 (by decide)
        have q81 := kt_1
        show MW p l e _ s m args below meth c _ 7 G 0 0 40 [some (.ref (G.1 22 0)), some (.int a1), some (.int a2), some (.int a3), some (.int a4), some (.int a5), none] [.int x77] τ74
        exact m_iret C hr hlk (by decide) (by decide) dX12_copy_40 ⟨_, rfl, i75, g79, (iv_wk b78 (by decide))⟩
      · have f82 : 0 ≤ x70.toInt := by
          have q : _ := c71
          simp only [ti_nle, ti_nlt, ti_le, ti_lt, ti_eq, ti_ne, Classical.not_not, kt_0] at q
          omega
        have b83 : IV x70 0 2147483647 := ⟨by have q1 := kc_0; have q2 := (iv_any x70); omega, by have q1 := kc_0; have q2 := (iv_any x70); omega⟩
        refine m_aload_n C dX12_copy_26 rfl rfl ?_
        refine g_22_3 C q4_119 dX12_copy_27 ?_
        refine m_iload_n C dX12_copy_30 rfl rfl ?_
        refine al_26 C b69 (by decide) rfl dX12_copy_31 ?_
        refine m_topi (fun x84 ex84 => ?_)
        refine m_if_ge (tgt := 41) C dX12_copy_32 (by decide) (fun c85 => ?_) (fun c85 => ?_)
        · have f86 : 0 ≤ x84.toInt := by
            have q : _ := c85
            simp only [ti_nle, ti_nlt, ti_le, ti_lt, ti_eq, ti_ne, Classical.not_not, kt_0] at q
            omega
          have b87 : IV x84 0 2147483647 := ⟨by have q1 := kc_0; have q2 := (iv_any x84); omega, by have q1 := kc_0; have q2 := (iv_any x84); omega⟩
          refine m_aload_n C dX12_copy_41 rfl rfl ?_
          refine g_22_3 C q4_119 dX12_copy_42 ?_
          refine m_iload_n C dX12_copy_45 rfl rfl ?_
          refine al_26 C b58 (by decide) rfl dX12_copy_46 ?_
          refine m_eqs (w := x70) ex70.symm ?_
          refine m_aload_n C dX12_copy_47 rfl rfl ?_
          refine g_22_3 C q4_119 dX12_copy_48 ?_
          refine m_iload_n C dX12_copy_51 rfl rfl ?_
          refine al_26 C b69 (by decide) rfl dX12_copy_52 ?_
          refine m_eqs (w := x84) ex84.symm ?_
          refine m_icmp_eq (tgt := 62) C dX12_copy_53 (by decide) (fun c88 => ?_) (fun c88 => ?_)
          · have f89 : x70.toInt = x84.toInt := by
              have q : _ := c88
              simp only [ti_nle, ti_nlt, ti_le, ti_lt, ti_eq, ti_ne, Classical.not_not] at q
              omega
            refine m_iload_n C dX12_copy_62 rfl rfl ?_
            refine m_if_lt (tgt := 111) C dX12_copy_63 (by decide) (fun c90 => ?_) (fun c90 => ?_)
            · have f91 : a2.toInt < 0 := by
                have q : _ := c90
                simp only [ti_nle, ti_nlt, ti_le, ti_lt, ti_eq, ti_ne, Classical.not_not, kt_0] at q
                omega
              have b92 : IV a2 (-2147483648) (-1) := ⟨by have q1 := (iv_any a2); have q2 := kc_0; omega, by have q1 := (iv_any a2); have q2 := kc_0; omega⟩
              refine m_aload_n C dX12_copy_111 rfl rfl ?_
              refine m_iconst (v := 2) C dX12_copy_112 (by decide) ?_
              refine m_callV (n := 1) (ci := 11) (st := []) C (c_X12_met l G τ59 (2) i60 (iv_wk kc_2 (by decide))) (by decide) (by decide) rfl rfl rfl q4_196 q4_193 q4_195 q0_26 q1_7 (by decide +kernel) rfl (by decide) (by decide) rfl (Nat.le_of_ble_eq_true rfl) dX12_copy_113 ?_
              rintro _ τ93 ⟨x96, rfl, i94, f95, b97, h99⟩
              have g98 : Fr MS_X12_copy AS_X12_copy σ τ93 := Fr.call (g64) f95 (by decide)
              have q100 := kt_2
              show MW p l e _ s m args below meth c _ 7 G 0 0 116 [some (.ref (G.1 22 0)), some (.int a1), some (.int a2), some (.int a3), some (.int a4), some (.int a5), none] [.int x96] τ93
              exact m_iret C hr hlk (by decide) (by decide) dX12_copy_116 ⟨_, rfl, i94, g98, (iv_wk b97 (by decide))⟩
            · have f101 : 0 ≤ a2.toInt := by
                have q : _ := c90
                simp only [ti_nle, ti_nlt, ti_le, ti_lt, ti_eq, ti_ne, Classical.not_not, kt_0] at q
                omega
              have b102 : IV a2 0 2147483647 := ⟨by have q1 := kc_0; have q2 := (iv_any a2); omega, by have q1 := kc_0; have q2 := (iv_any a2); omega⟩
              refine m_iload C dX12_copy_66 rfl ?_
              refine m_if_lt (tgt := 111) C dX12_copy_68 (by decide) (fun c103 => ?_) (fun c103 => ?_)
              · have f104 : a4.toInt < 0 := by
                  have q : _ := c103
                  simp only [ti_nle, ti_nlt, ti_le, ti_lt, ti_eq, ti_ne, Classical.not_not, kt_0] at q
                  omega
                have b105 : IV a4 (-2147483648) (-1) := ⟨by have q1 := (iv_any a4); have q2 := kc_0; omega, by have q1 := (iv_any a4); have q2 := kc_0; omega⟩
                refine m_aload_n C dX12_copy_111 rfl rfl ?_
                refine m_iconst (v := 2) C dX12_copy_112 (by decide) ?_
                refine m_callV (n := 1) (ci := 11) (st := []) C (c_X12_met l G τ59 (2) i60 (iv_wk kc_2 (by decide))) (by decide) (by decide) rfl rfl rfl q4_196 q4_193 q4_195 q0_26 q1_7 (by decide +kernel) rfl (by decide) (by decide) rfl (Nat.le_of_ble_eq_true rfl) dX12_copy_113 ?_
                rintro _ τ106 ⟨x109, rfl, i107, f108, b110, h112⟩
                have g111 : Fr MS_X12_copy AS_X12_copy σ τ106 := Fr.call (g64) f108 (by decide)
                have q113 := kt_2
                show MW p l e _ s m args below meth c _ 7 G 0 0 116 [some (.ref (G.1 22 0)), some (.int a1), some (.int a2), some (.int a3), some (.int a4), some (.int a5), none] [.int x109] τ106
                exact m_iret C hr hlk (by decide) (by decide) dX12_copy_116 ⟨_, rfl, i107, g111, (iv_wk b110 (by decide))⟩
              · have f114 : 0 ≤ a4.toInt := by
                  have q : _ := c103
                  simp only [ti_nle, ti_nlt, ti_le, ti_lt, ti_eq, ti_ne, Classical.not_not, kt_0] at q
                  omega
                have b115 : IV a4 0 2147483647 := ⟨by have q1 := kc_0; have q2 := (iv_any a4); omega, by have q1 := kc_0; have q2 := (iv_any a4); omega⟩
                refine m_iload C dX12_copy_71 rfl ?_
                refine m_if_lt (tgt := 111) C dX12_copy_73 (by decide) (fun c116 => ?_) (fun c116 => ?_)
                · have f117 : a5.toInt < 0 := by
                    have q : _ := c116
                    simp only [ti_nle, ti_nlt, ti_le, ti_lt, ti_eq, ti_ne, Classical.not_not, kt_0] at q
                    omega
                  have b118 : IV a5 (-2147483648) (-1) := ⟨by have q1 := (iv_any a5); have q2 := kc_0; omega, by have q1 := (iv_any a5); have q2 := kc_0; omega⟩
                  refine m_aload_n C dX12_copy_111 rfl rfl ?_
                  refine m_iconst (v := 2) C dX12_copy_112 (by decide) ?_
                  refine m_callV (n := 1) (ci := 11) (st := []) C (c_X12_met l G τ59 (2) i60 (iv_wk kc_2 (by decide))) (by decide) (by decide) rfl rfl rfl q4_196 q4_193 q4_195 q0_26 q1_7 (by decide +kernel) rfl (by decide) (by decide) rfl (Nat.le_of_ble_eq_true rfl) dX12_copy_113 ?_
                  rintro _ τ119 ⟨x122, rfl, i120, f121, b123, h125⟩
                  have g124 : Fr MS_X12_copy AS_X12_copy σ τ119 := Fr.call (g64) f121 (by decide)
                  have q126 := kt_2
                  show MW p l e _ s m args below meth c _ 7 G 0 0 116 [some (.ref (G.1 22 0)), some (.int a1), some (.int a2), some (.int a3), some (.int a4), some (.int a5), none] [.int x122] τ119
                  exact m_iret C hr hlk (by decide) (by decide) dX12_copy_116 ⟨_, rfl, i120, g124, (iv_wk b123 (by decide))⟩
                · have f127 : 0 ≤ a5.toInt := by
                    have q : _ := c116
                    simp only [ti_nle, ti_nlt, ti_le, ti_lt, ti_eq, ti_ne, Classical.not_not, kt_0] at q
                    omega
                  have b128 : IV a5 0 2147483647 := ⟨by have q1 := kc_0; have q2 := (iv_any a5); omega, by have q1 := kc_0; have q2 := (iv_any a5); omega⟩
                  refine m_iload_n C dX12_copy_76 rfl rfl ?_
                  refine m_i2l C dX12_copy_77 ?_
                  refine m_iload C dX12_copy_78 rfl ?_
                  refine m_i2l C dX12_copy_80 ?_
                  refine m_ladd C dX12_copy_81 ?_
                  refine m_aload_n C dX12_copy_82 rfl rfl ?_
                  refine g_22_4 C q4_120 dX12_copy_83 ?_
                  refine m_iload_n C dX12_copy_86 rfl rfl ?_
                  refine al_27 C b58 (by decide) rfl dX12_copy_87 ?_
                  refine m_topi (fun x129 ex129 => ?_)
                  have b130 : IV x129 0 40 := by rw [ex129]; exact i60.1 27 0 _
                  refine m_i2l C dX12_copy_88 ?_
                  refine m_lcmp C dX12_copy_89 ?_
                  refine m_topi (fun x131 ex131 => ?_)
                  have b132 : IV x131 (-1) 1 := by rw [ex131]; rcases lgc ((a2 : Int32).toInt64 + (a5 : Int32).toInt64) (x129 : Int32).toInt64 with q | q | q <;> omega
                  have f133 := lgc ((a2 : Int32).toInt64 + (a5 : Int32).toInt64) (x129 : Int32).toInt64
                  rw [← ex131] at f133
                  have f134 := tl_add a2 a5
                  have f135 := tl_i x129
                  refine m_if_gt (tgt := 111) C dX12_copy_90 (by decide) (fun c136 => ?_) (fun c136 => ?_)
                  · have f137 : 0 < x131.toInt := by
                      have q : _ := c136
                      simp only [ti_nle, ti_nlt, ti_le, ti_lt, ti_eq, ti_ne, Classical.not_not, kt_0] at q
                      omega
                    have b138 : IV x131 1 1 := ⟨by have q1 := kc_0; have q2 := b132; omega, by have q1 := kc_0; have q2 := b132; omega⟩
                    refine m_aload_n C dX12_copy_111 rfl rfl ?_
                    refine m_iconst (v := 2) C dX12_copy_112 (by decide) ?_
                    refine m_callV (n := 1) (ci := 11) (st := []) C (c_X12_met l G τ59 (2) i60 (iv_wk kc_2 (by decide))) (by decide) (by decide) rfl rfl rfl q4_196 q4_193 q4_195 q0_26 q1_7 (by decide +kernel) rfl (by decide) (by decide) rfl (Nat.le_of_ble_eq_true rfl) dX12_copy_113 ?_
                    rintro _ τ139 ⟨x142, rfl, i140, f141, b143, h145⟩
                    have g144 : Fr MS_X12_copy AS_X12_copy σ τ139 := Fr.call (g64) f141 (by decide)
                    have q146 := kt_2
                    show MW p l e _ s m args below meth c _ 7 G 0 0 116 [some (.ref (G.1 22 0)), some (.int a1), some (.int a2), some (.int a3), some (.int a4), some (.int a5), none] [.int x142] τ139
                    exact m_iret C hr hlk (by decide) (by decide) dX12_copy_116 ⟨_, rfl, i140, g144, (iv_wk b143 (by decide))⟩
                  · have f147 : x131.toInt ≤ 0 := by
                      have q : _ := c136
                      simp only [ti_nle, ti_nlt, ti_le, ti_lt, ti_eq, ti_ne, Classical.not_not, kt_0] at q
                      omega
                    have b148 : IV x131 (-1) 0 := ⟨by have q1 := b132; have q2 := kc_0; omega, by have q1 := b132; have q2 := kc_0; omega⟩
                    refine m_iload C dX12_copy_93 rfl ?_
                    refine m_i2l C dX12_copy_95 ?_
                    refine m_iload C dX12_copy_96 rfl ?_
                    refine m_i2l C dX12_copy_98 ?_
                    refine m_ladd C dX12_copy_99 ?_
                    refine m_aload_n C dX12_copy_100 rfl rfl ?_
                    refine g_22_4 C q4_120 dX12_copy_101 ?_
                    refine m_iload_n C dX12_copy_104 rfl rfl ?_
                    refine al_27 C b69 (by decide) rfl dX12_copy_105 ?_
                    refine m_topi (fun x149 ex149 => ?_)
                    have b150 : IV x149 0 40 := by rw [ex149]; exact i60.1 27 0 _
                    refine m_i2l C dX12_copy_106 ?_
                    refine m_lcmp C dX12_copy_107 ?_
                    refine m_topi (fun x151 ex151 => ?_)
                    have b152 : IV x151 (-1) 1 := by rw [ex151]; rcases lgc ((a4 : Int32).toInt64 + (a5 : Int32).toInt64) (x149 : Int32).toInt64 with q | q | q <;> omega
                    have f153 := lgc ((a4 : Int32).toInt64 + (a5 : Int32).toInt64) (x149 : Int32).toInt64
                    rw [← ex151] at f153
                    have f154 := tl_add a4 a5
                    have f155 := tl_i x149
                    refine m_if_le (tgt := 117) C dX12_copy_108 (by decide) (fun c156 => ?_) (fun c156 => ?_)
                    · have f157 : x151.toInt ≤ 0 := by
                        have q : _ := c156
                        simp only [ti_nle, ti_nlt, ti_le, ti_lt, ti_eq, ti_ne, Classical.not_not, kt_0] at q
                        omega
                      have b158 : IV x151 (-1) 0 := ⟨by have q1 := b152; have q2 := kc_0; omega, by have q1 := b152; have q2 := kc_0; omega⟩
                      have b159 : IV a5 0 40 := ⟨by have q1 := b128; omega, by have q1 := b128; omega⟩
                      have b160 : IV a2 0 40 := ⟨by have q1 := b102; omega, by have q1 := b102; omega⟩
                      have b161 : IV a4 0 40 := ⟨by have q1 := b115; omega, by have q1 := b115; omega⟩
                      refine m_iconst (v := 0) C dX12_copy_117 (by decide) ?_
                      refine m_istore (L1 := [some (.ref (G.1 22 0)), some (.int a1), some (.int a2), some (.int a3), some (.int a4), some (.int a5), some (.int 0)]) C dX12_copy_118 (by decide) rfl rfl ?_
                      exact J120 ((40 - (0 : Int32).toInt).toNat + 1) τ59 0 i60 g64 b58 b160 b69 b161 b159 (iv_wk kc_0 (by decide)) (by omega) (Nat.lt_succ_self _)
                    · have f162 : 0 < x151.toInt := by
                        have q : _ := c156
                        simp only [ti_nle, ti_nlt, ti_le, ti_lt, ti_eq, ti_ne, Classical.not_not, kt_0] at q
                        omega
                      have b163 : IV x151 1 1 := ⟨by have q1 := kc_0; have q2 := b152; omega, by have q1 := kc_0; have q2 := b152; omega⟩
                      refine m_aload_n C dX12_copy_111 rfl rfl ?_
                      refine m_iconst (v := 2) C dX12_copy_112 (by decide) ?_
                      refine m_callV (n := 1) (ci := 11) (st := []) C (c_X12_met l G τ59 (2) i60 (iv_wk kc_2 (by decide))) (by decide) (by decide) rfl rfl rfl q4_196 q4_193 q4_195 q0_26 q1_7 (by decide +kernel) rfl (by decide) (by decide) rfl (Nat.le_of_ble_eq_true rfl) dX12_copy_113 ?_
                      rintro _ τ164 ⟨x167, rfl, i165, f166, b168, h170⟩
                      have g169 : Fr MS_X12_copy AS_X12_copy σ τ164 := Fr.call (g64) f166 (by decide)
                      have q171 := kt_2
                      show MW p l e _ s m args below meth c _ 7 G 0 0 116 [some (.ref (G.1 22 0)), some (.int a1), some (.int a2), some (.int a3), some (.int a4), some (.int a5), none] [.int x167] τ164
                      exact m_iret C hr hlk (by decide) (by decide) dX12_copy_116 ⟨_, rfl, i165, g169, (iv_wk b168 (by decide))⟩
          · have f172 : x70.toInt ≠ x84.toInt := by
              have q : _ := c88
              simp only [ti_nle, ti_nlt, ti_le, ti_lt, ti_eq, ti_ne, Classical.not_not] at q
              omega
            refine m_aload_n C dX12_copy_56 rfl rfl ?_
            refine m_iconst (v := 5) C dX12_copy_57 (by decide) ?_
            refine m_callV (n := 1) (ci := 11) (st := []) C (c_X12_met l G τ59 (5) i60 (iv_wk kc_5 (by decide))) (by decide) (by decide) rfl rfl rfl q4_196 q4_193 q4_195 q0_26 q1_7 (by decide +kernel) rfl (by decide) (by decide) rfl (Nat.le_of_ble_eq_true rfl) dX12_copy_58 ?_
            rintro _ τ173 ⟨x176, rfl, i174, f175, b177, h179⟩
            have g178 : Fr MS_X12_copy AS_X12_copy σ τ173 := Fr.call (g64) f175 (by decide)
            have q180 := kt_5
            show MW p l e _ s m args below meth c _ 7 G 0 0 61 [some (.ref (G.1 22 0)), some (.int a1), some (.int a2), some (.int a3), some (.int a4), some (.int a5), none] [.int x176] τ173
            exact m_iret C hr hlk (by decide) (by decide) dX12_copy_61 ⟨_, rfl, i174, g178, (iv_wk b177 (by decide))⟩
        · have f181 : x84.toInt < 0 := by
            have q : _ := c85
            simp only [ti_nle, ti_nlt, ti_le, ti_lt, ti_eq, ti_ne, Classical.not_not, kt_0] at q
            omega
          have b182 : IV x84 (-2147483648) (-1) := ⟨by have q1 := (iv_any x84); have q2 := kc_0; omega, by have q1 := (iv_any x84); have q2 := kc_0; omega⟩
          refine m_aload_n C dX12_copy_35 rfl rfl ?_
          refine m_iconst (v := 1) C dX12_copy_36 (by decide) ?_
          refine m_callV (n := 1) (ci := 11) (st := []) C (c_X12_met l G τ59 (1) i60 (iv_wk kc_1 (by decide))) (by decide) (by decide) rfl rfl rfl q4_196 q4_193 q4_195 q0_26 q1_7 (by decide +kernel) rfl (by decide) (by decide) rfl (Nat.le_of_ble_eq_true rfl) dX12_copy_37 ?_
          rintro _ τ183 ⟨x186, rfl, i184, f185, b187, h189⟩
          have g188 : Fr MS_X12_copy AS_X12_copy σ τ183 := Fr.call (g64) f185 (by decide)
          have q190 := kt_1
          show MW p l e _ s m args below meth c _ 7 G 0 0 40 [some (.ref (G.1 22 0)), some (.int a1), some (.int a2), some (.int a3), some (.int a4), some (.int a5), none] [.int x186] τ183
          exact m_iret C hr hlk (by decide) (by decide) dX12_copy_40 ⟨_, rfl, i184, g188, (iv_wk b187 (by decide))⟩
    · have f191 : x62.toInt = 0 := by
        have q : _ := c66
        simp only [ti_nle, ti_nlt, ti_le, ti_lt, ti_eq, ti_ne, Classical.not_not, kt_0] at q
        omega
      have b192 : IV x62 0 0 := ⟨by have q1 := b63; have q2 := kc_0; omega, by have q1 := b63; have q2 := kc_0; omega⟩
      refine m_ldc (v := (-1000001)) C dX12_copy_14 q4_192 ?_
      exact m_iret C hr hlk (by decide) (by decide) dX12_copy_16 ⟨_, rfl, i60, g64, (iv_wk kc_m1000001 (by decide))⟩
