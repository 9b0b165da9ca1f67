set_option maxHeartbeats 4000000 in
theorem c_X12_bellsZ (l : Launch) (G : Gt) (σ : Sg) (a1 : Int32) (a2 : Int32) (a3 : Int32) (hI : Inv σ) : Mc l G yX12_bells cX12_bells 14 (some .int) 2 60 0 0 [.ref (G.1 22 0), .int a1, .int a2, .int a3] σ (PI fun r τ => Inv τ ∧ Fr [(22, 8)] [] σ τ ∧ IV r (-2147483648) 2147483647 ∧ (((a1.toInt < 0 ∨ 7 < a1.toInt ∨ a2.toInt < 1 ∨ 5 < a2.toInt ∨ a3.toInt < -1) ∧ r.toInt = -1000001) ∨ (((0 ≤ a1.toInt ∧ a1.toInt ≤ 7) ∧ 1 ≤ a2.toInt ∧ a2.toInt ≤ 5 ∧ -1 ≤ a3.toInt) ∧ (gV σ 26 0 (a1.toInt.toNat)).toInt < 0 ∧ r.toInt = -1000011) ∨ (((0 ≤ a1.toInt ∧ a1.toInt ≤ 7) ∧ 1 ≤ a2.toInt ∧ a2.toInt ≤ 5 ∧ -1 ≤ a3.toInt) ∧ 0 ≤ (gV σ 26 0 (a1.toInt.toNat)).toInt ∧ (gV σ 27 0 (a1.toInt.toNat)).toInt < a2.toInt ∧ r.toInt = -1000012) ∨ (((0 ≤ a1.toInt ∧ a1.toInt ≤ 7) ∧ 1 ≤ a2.toInt ∧ a2.toInt ≤ 5 ∧ -1 ≤ a3.toInt) ∧ 0 ≤ (gV σ 26 0 (a1.toInt.toNat)).toInt ∧ a2.toInt ≤ (gV σ 27 0 (a1.toInt.toNat)).toInt ∧ ¬ AlJ σ (a1.toInt.toNat) a2.toInt 1 20 ∧ r.toInt = -1000001) ∨ (((0 ≤ a1.toInt ∧ a1.toInt ≤ 7) ∧ 1 ≤ a2.toInt ∧ a2.toInt ≤ 5 ∧ -1 ≤ a3.toInt) ∧ 0 ≤ (gV σ 26 0 (a1.toInt.toNat)).toInt ∧ a2.toInt ≤ (gV σ 27 0 (a1.toInt.toNat)).toInt ∧ AlJ σ (a1.toInt.toNat) a2.toInt 1 20 ∧ RESB r a3 a2.toInt.toNat (bbest (nuJ σ (a1.toInt.toNat) a2.toInt.toNat) a2.toInt.toNat)))) := by
  by_cases h1 : a2.toInt ≤ 0
  · exact c_X12_bells_loZ l G σ a1 a2 a3 hI ⟨(iv_any a2).1, h1⟩
  by_cases h6 : 6 ≤ a2.toInt
  · exact c_X12_bells_hiZ l G σ a1 a2 a3 hI ⟨h6, (iv_any a2).2⟩
  have h : a2 = 1 ∨ a2 = 2 ∨ a2 = 3 ∨ a2 = 4 ∨ a2 = 5 := by
    simp only [ti_eq, kt_1, kt_2, kt_3, kt_4, kt_5]
    omega
  rcases h with rfl | rfl | rfl | rfl | rfl
  · simpa only [kt_1, show (1 : Int).toNat = 1 from rfl] using c_X12_bells_1Z l G σ a1 a3 hI
  · simpa only [kt_2, show (2 : Int).toNat = 2 from rfl] using c_X12_bells_2Z l G σ a1 a3 hI
  · simpa only [kt_3, show (3 : Int).toNat = 3 from rfl] using c_X12_bells_3Z l G σ a1 a3 hI
  · simpa only [kt_4, show (4 : Int).toNat = 4 from rfl] using c_X12_bells_4Z l G σ a1 a3 hI
  · simpa only [kt_5, show (5 : Int).toNat = 5 from rfl] using c_X12_bells_5Z l G σ a1 a3 hI

abbrev MS_X11_bellsB : List (Nat × Nat) := [(0, 12), (16, 2), (16, 4)]
abbrev AS_X11_bellsB : List Nat := [17, 18, 19]
set_option maxHeartbeats 4000000 in
set_option maxRecDepth 100000 in
theorem c_X11_bellsB (l : Launch) (G : Gt) (σ : Sg) (a1 : Int32) (a2 : Int32) (a3 : Int32) (hI : Inv σ) : Mc l G yX11_bells cX11_bells 5 (some .int) 8 245 0 0 [.ref (G.1 0 0), .int a1, .int a2, .int a3] σ (PI fun r τ => Inv τ ∧ Fr MS_X11_bellsB AS_X11_bellsB σ τ ∧ IV r (-2147483648) 2147483647 ∧ (((a1.toInt < 0 ∨ 7 < a1.toInt ∨ a2.toInt < 1 ∨ 5 < a2.toInt ∨ a3.toInt < -1) ∧ r.toInt = -1000001) ∨ (((0 ≤ a1.toInt ∧ a1.toInt ≤ 7) ∧ 1 ≤ a2.toInt ∧ a2.toInt ≤ 5 ∧ -1 ≤ a3.toInt) ∧ (gV σ 20 (a1.toInt.toNat) 1).toInt = -1 ∧ r.toInt = -1000011) ∨ (((0 ≤ a1.toInt ∧ a1.toInt ≤ 7) ∧ 1 ≤ a2.toInt ∧ a2.toInt ≤ 5 ∧ -1 ≤ a3.toInt) ∧ (gV σ 20 (a1.toInt.toNat) 1).toInt ≠ -1 ∧ (gV σ 20 (a1.toInt.toNat) 2).toInt < a2.toInt ∧ r.toInt = -1000012) ∨ (((0 ≤ a1.toInt ∧ a1.toInt ≤ 7) ∧ 1 ≤ a2.toInt ∧ a2.toInt ≤ 5 ∧ -1 ≤ a3.toInt) ∧ (gV σ 20 (a1.toInt.toNat) 1).toInt ≠ -1 ∧ a2.toInt ≤ (gV σ 20 (a1.toInt.toNat) 2).toInt ∧ ¬ AlI σ (a1.toInt.toNat) a2.toInt 1 20 ∧ r.toInt = -1000001) ∨ (((0 ≤ a1.toInt ∧ a1.toInt ≤ 7) ∧ 1 ≤ a2.toInt ∧ a2.toInt ≤ 5 ∧ -1 ≤ a3.toInt) ∧ (gV σ 20 (a1.toInt.toNat) 1).toInt ≠ -1 ∧ a2.toInt ≤ (gV σ 20 (a1.toInt.toNat) 2).toInt ∧ AlI σ (a1.toInt.toNat) a2.toInt 1 20 ∧ RESB r a3 a2.toInt.toNat (bbest (nuI σ (a1.toInt.toNat) a2.toInt.toNat) a2.toInt.toNat)))) := by
  refine Mc.of (L0 := [some (.ref (G.1 0 0)), some (.int a1), some (.int a2), some (.int a3), none]) (by decide) (Nat.le_of_ble_eq_true rfl) rfl ?_
  intro p e s m args below meth c C hr hlk
  have C : Cx p s m args c cX11_bells 5 "LeanTower" := C
  have k0 : (0 : Int32).toInt = 0 := by decide
  have k1 : (1 : Int32).toInt = 1 := by decide
  have u1 : IV (gV σ 20 (a1.toInt.toNat) 2) 0 40 := hI.1 20 (a1.toInt.toNat) 2
  refine m_aload_n C dX11_bells_0 rfl rfl ?_
  refine m_iload_n C dX11_bells_1 rfl rfl ?_
  refine m_callV (n := 1) (ci := 10) (st := []) C (c_X11_rowAt l G σ (a1) hI ) (by decide) (by decide) rfl rfl rfl q1_233 q1_230 q1_232 q0_0 q1_1 (by decide +kernel) rfl (by decide) (by decide) rfl (Nat.le_of_ble_eq_true rfl) dX11_bells_2 ?_
  rintro _ τ2 ⟨x5, rfl, i3, f4, h8⟩
  have g7 : Fr MS_X11_bellsB AS_X11_bellsB σ τ2 := Fr.call (Fr.rf) f4 (by decide)
  have q9 : (gV τ2 20 (a1.toInt.toNat) 1).toInt = (gV σ 20 (a1.toInt.toNat) 1).toInt := congrArg Int32.toInt (show (gV τ2 20 (a1.toInt.toNat) 1) = (gV σ 20 (a1.toInt.toNat) 1) from (show gV τ2 20 (a1.toInt.toNat) 1 = (gV σ 20 (a1.toInt.toNat) 1) from (f4.1 20 (a1.toInt.toNat) (1) (by decide) (by decide)).trans rfl))
  have q10 : (gV τ2 20 (a1.toInt.toNat) 2).toInt = (gV σ 20 (a1.toInt.toNat) 2).toInt := congrArg Int32.toInt (show (gV τ2 20 (a1.toInt.toNat) 2) = (gV σ 20 (a1.toInt.toNat) 2) from (show gV τ2 20 (a1.toInt.toNat) 2 = (gV σ 20 (a1.toInt.toNat) 2) from (f4.1 20 (a1.toInt.toNat) (2) (by decide) (by decide)).trans rfl))
  rcases h8 with ⟨rfl, x5q⟩ | ⟨rfl, x5q⟩
  · skip
    show MW p l e _ s m args below meth c _ 5 G 0 0 5 [some (.ref (G.1 0 0)), some (.int a1), some (.int a2), some (.int a3), none] [.null] τ2
    refine m_astoreN (L1 := [some (.ref (G.1 0 0)), some (.int a1), some (.int a2), some (.int a3), some (.null)]) C dX11_bells_5 (by decide) rfl rfl ?_
    refine m_aloadN C dX11_bells_7 rfl ?_
    refine m_ifnullN (tgt := 27) C dX11_bells_9 (by decide) ?_
    refine m_ldc (v := (-1000001)) C dX11_bells_27 q1_234 ?_
    exact m_iret C hr hlk (by decide) (by decide) dX11_bells_29 ⟨_, rfl, i3, g7, (iv_wk kc_m1000001 (by decide)), (Or.inl ⟨by have qk := kt_m1000001; omega, by have qk := kt_m1000001; omega⟩)⟩
  · have b11 : IV a1 0 7 := ⟨by have q1 := (iv_any a1); omega, by have q1 := (iv_any a1); omega⟩
    show MW p l e _ s m args below meth c _ 5 G 0 0 5 [some (.ref (G.1 0 0)), some (.int a1), some (.int a2), some (.int a3), none] [.ref (G.1 20 (a1.toInt.toNat))] τ2
    refine m_astore (L1 := [some (.ref (G.1 0 0)), some (.int a1), some (.int a2), some (.int a3), some (.ref (G.1 20 (a1.toInt.toNat)))]) C dX11_bells_5 (by decide) rfl rfl ?_
    refine m_aload C dX11_bells_7 rfl ?_
    refine m_ifnull C dX11_bells_9 ?_
    refine m_iload_n C dX11_bells_12 rfl rfl ?_
    refine m_iconst (v := 1) C dX11_bells_13 (by decide) ?_
    refine m_icmp_lt (tgt := 27) C dX11_bells_14 (by decide) (fun c12 => ?_) (fun c12 => ?_)
    · have f13 : a2.toInt < 1 := by
        have q : _ := c12
        simp only [ti_nle, ti_nlt, ti_le, ti_lt, ti_eq, ti_ne, Classical.not_not, kt_1] at q
        omega
      have b14 : IV a2 (-2147483648) 0 := ⟨by have q1 := (iv_any a2); have q2 := kc_1; omega, by have q1 := (iv_any a2); have q2 := kc_1; omega⟩
      refine m_ldc (v := (-1000001)) C dX11_bells_27 q1_234 ?_
      exact m_iret C hr hlk (by decide) (by decide) dX11_bells_29 ⟨_, rfl, i3, g7, (iv_wk kc_m1000001 (by decide)), (Or.inl ⟨by have qk := kt_m1000001; omega, by have qk := kt_m1000001; omega⟩)⟩
    · have f15 : 1 ≤ a2.toInt := by
        have q : _ := c12
        simp only [ti_nle, ti_nlt, ti_le, ti_lt, ti_eq, ti_ne, Classical.not_not, kt_1] at q
        omega
      have b16 : IV a2 1 2147483647 := ⟨by have q1 := kc_1; have q2 := (iv_any a2); omega, by have q1 := kc_1; have q2 := (iv_any a2); omega⟩
      refine m_iload_n C dX11_bells_17 rfl rfl ?_
      refine m_iconst (v := 5) C dX11_bells_18 (by decide) ?_
      refine m_icmp_gt (tgt := 27) C dX11_bells_19 (by decide) (fun c17 => ?_) (fun c17 => ?_)
      · have f18 : 5 < a2.toInt := by
          have q : _ := c17
          simp only [ti_nle, ti_nlt, ti_le, ti_lt, ti_eq, ti_ne, Classical.not_not, kt_5] at q
          omega
        have b19 : IV a2 6 2147483647 := ⟨by have q1 := kc_5; have q2 := b16; omega, by have q1 := kc_5; have q2 := b16; omega⟩
        refine m_ldc (v := (-1000001)) C dX11_bells_27 q1_234 ?_
        exact m_iret C hr hlk (by decide) (by decide) dX11_bells_29 ⟨_, rfl, i3, g7, (iv_wk kc_m1000001 (by decide)), (Or.inl ⟨by have qk := kt_m1000001; omega, by have qk := kt_m1000001; omega⟩)⟩
      · have f20 : a2.toInt ≤ 5 := by
          have q : _ := c17
          simp only [ti_nle, ti_nlt, ti_le, ti_lt, ti_eq, ti_ne, Classical.not_not, kt_5] at q
          omega
        have b21 : IV a2 1 5 := ⟨by have q1 := b16; have q2 := kc_5; omega, by have q1 := b16; have q2 := kc_5; omega⟩
        refine m_iload_n C dX11_bells_22 rfl rfl ?_
        refine m_iconst (v := (-1)) C dX11_bells_23 (by decide) ?_
        refine m_icmp_ge (tgt := 30) C dX11_bells_24 (by decide) (fun c22 => ?_) (fun c22 => ?_)
        · have f23 : -1 ≤ a3.toInt := by
            have q : _ := c22
            simp only [ti_nle, ti_nlt, ti_le, ti_lt, ti_eq, ti_ne, Classical.not_not, kt_m1] at q
            omega
          have b24 : IV a3 (-1) 2147483647 := ⟨by have q1 := kc_m1; have q2 := (iv_any a3); omega, by have q1 := kc_m1; have q2 := (iv_any a3); omega⟩
          refine m_aload C dX11_bells_30 rfl ?_
          refine m_callV (n := 0) (ci := 6) (st := []) C (c_X7_isMissingE l G τ2 (j := (a1.toInt.toNat)) (iv_nat b11 (by decide))  i3 ) (by decide) (iv_nat b11 (by decide)) rfl rfl rfl q2_15 q2_12 q2_13 q2_14 q1_6 (by decide +kernel) rfl (by decide) (by decide) rfl (Nat.le_of_ble_eq_true rfl) dX11_bells_32 ?_
          rintro _ τ25 ⟨x28, rfl, i26, f27, b29, h31⟩
          have g30 : Fr MS_X11_bellsB AS_X11_bellsB σ τ25 := Fr.call (g7) f27 (by decide)
          have q32 : (gV τ25 20 (a1.toInt.toNat) 1).toInt = (gV σ 20 (a1.toInt.toNat) 1).toInt := congrArg Int32.toInt (show (gV τ25 20 (a1.toInt.toNat) 1) = (gV σ 20 (a1.toInt.toNat) 1) from (show gV τ25 20 (a1.toInt.toNat) 1 = (gV σ 20 (a1.toInt.toNat) 1) from (f27.1 20 (a1.toInt.toNat) (1) (by decide) (by decide)).trans (show gV τ2 20 (a1.toInt.toNat) 1 = (gV σ 20 (a1.toInt.toNat) 1) from (f4.1 20 (a1.toInt.toNat) (1) (by decide) (by decide)).trans rfl)))
          have q33 : (gV τ25 20 (a1.toInt.toNat) 2).toInt = (gV σ 20 (a1.toInt.toNat) 2).toInt := congrArg Int32.toInt (show (gV τ25 20 (a1.toInt.toNat) 2) = (gV σ 20 (a1.toInt.toNat) 2) from (show gV τ25 20 (a1.toInt.toNat) 2 = (gV σ 20 (a1.toInt.toNat) 2) from (f27.1 20 (a1.toInt.toNat) (2) (by decide) (by decide)).trans (show gV τ2 20 (a1.toInt.toNat) 2 = (gV σ 20 (a1.toInt.toNat) 2) from (f4.1 20 (a1.toInt.toNat) (2) (by decide) (by decide)).trans rfl)))
          rcases h31 with ⟨h31_0, h31_1⟩ | ⟨h31_0, h31_1⟩
          · skip
            have b34 : IV x28 1 1 := ⟨by omega, by omega⟩
            show MW p l e _ s m args below meth c _ 5 G 0 0 35 [some (.ref (G.1 0 0)), some (.int a1), some (.int a2), some (.int a3), some (.ref (G.1 20 (a1.toInt.toNat)))] [.int x28] τ25
            refine m_if_eq (tgt := 44) C dX11_bells_35 (by decide) (fun c35 => ?_) (fun c35 => ?_)
            · exfalso
              have q : _ := c35
              simp only [ti_nle, ti_nlt, ti_le, ti_lt, ti_eq, ti_ne, Classical.not_not, kt_0] at q
              have q1 := b34; have q2 := kc_0; omega
            · have f37 : x28.toInt ≠ 0 := by
                have q : _ := c35
                simp only [ti_nle, ti_nlt, ti_le, ti_lt, ti_eq, ti_ne, Classical.not_not, kt_0] at q
                omega
              refine m_aload_n C dX11_bells_38 rfl rfl ?_
              refine m_iconst (v := 1) C dX11_bells_39 (by decide) ?_
              have q38 := kt_1
              refine m_callV (n := 1) (ci := 10) (st := []) C (c_X11_foundQ l G τ25 (1) i26 (iv_wk kc_1 (by decide))) (by decide) (by decide) rfl rfl rfl q1_238 q1_235 q1_237 q0_1 q1_1 (by decide +kernel) rfl (by decide) (by decide) rfl (Nat.le_of_ble_eq_true rfl) dX11_bells_40 ?_
              rintro _ τ39 ⟨x42, rfl, i40, f41, b43, h45⟩
              have g44 : Fr MS_X11_bellsB AS_X11_bellsB σ τ39 := Fr.call (g30) f41 (by decide)
              have q46 : (gV τ39 20 (a1.toInt.toNat) 1).toInt = (gV σ 20 (a1.toInt.toNat) 1).toInt := congrArg Int32.toInt (show (gV τ39 20 (a1.toInt.toNat) 1) = (gV σ 20 (a1.toInt.toNat) 1) from (show gV τ39 20 (a1.toInt.toNat) 1 = (gV σ 20 (a1.toInt.toNat) 1) from (f41.1 20 (a1.toInt.toNat) (1) (by decide) (by decide)).trans (show gV τ25 20 (a1.toInt.toNat) 1 = (gV σ 20 (a1.toInt.toNat) 1) from (f27.1 20 (a1.toInt.toNat) (1) (by decide) (by decide)).trans (show gV τ2 20 (a1.toInt.toNat) 1 = (gV σ 20 (a1.toInt.toNat) 1) from (f4.1 20 (a1.toInt.toNat) (1) (by decide) (by decide)).trans rfl))))
              have q47 : (gV τ39 20 (a1.toInt.toNat) 2).toInt = (gV σ 20 (a1.toInt.toNat) 2).toInt := congrArg Int32.toInt (show (gV τ39 20 (a1.toInt.toNat) 2) = (gV σ 20 (a1.toInt.toNat) 2) from (show gV τ39 20 (a1.toInt.toNat) 2 = (gV σ 20 (a1.toInt.toNat) 2) from (f41.1 20 (a1.toInt.toNat) (2) (by decide) (by decide)).trans (show gV τ25 20 (a1.toInt.toNat) 2 = (gV σ 20 (a1.toInt.toNat) 2) from (f27.1 20 (a1.toInt.toNat) (2) (by decide) (by decide)).trans (show gV τ2 20 (a1.toInt.toNat) 2 = (gV σ 20 (a1.toInt.toNat) 2) from (f4.1 20 (a1.toInt.toNat) (2) (by decide) (by decide)).trans rfl))))
              have q48 := kt_1
              show MW p l e _ s m args below meth c _ 5 G 0 0 43 [some (.ref (G.1 0 0)), some (.int a1), some (.int a2), some (.int a3), some (.ref (G.1 20 (a1.toInt.toNat)))] [.int x42] τ39
              exact m_iret C hr hlk (by decide) (by decide) dX11_bells_43 ⟨_, rfl, i40, g44, (iv_wk b43 (by decide)), (Or.inr (Or.inl ⟨by omega, by omega, by omega⟩))⟩
          · skip
            have b49 : IV x28 0 0 := ⟨by omega, by omega⟩
            show MW p l e _ s m args below meth c _ 5 G 0 0 35 [some (.ref (G.1 0 0)), some (.int a1), some (.int a2), some (.int a3), some (.ref (G.1 20 (a1.toInt.toNat)))] [.int x28] τ25
            refine m_if_eq (tgt := 44) C dX11_bells_35 (by decide) (fun c50 => ?_) (fun c50 => ?_)
            · have f51 : x28.toInt = 0 := by
                have q : _ := c50
                simp only [ti_nle, ti_nlt, ti_le, ti_lt, ti_eq, ti_ne, Classical.not_not, kt_0] at q
                omega
              refine m_aload C dX11_bells_44 rfl ?_
              refine g_20_2 C (iv_nat b11 (by decide)) q1_177 dX11_bells_46 ?_
              refine m_eqs (w := (gV σ 20 (a1.toInt.toNat) 2)) (show gV τ25 20 (a1.toInt.toNat) 2 = (gV σ 20 (a1.toInt.toNat) 2) from (f27.1 20 (a1.toInt.toNat) (2) (by decide) (by decide)).trans (show gV τ2 20 (a1.toInt.toNat) 2 = (gV σ 20 (a1.toInt.toNat) 2) from (f4.1 20 (a1.toInt.toNat) (2) (by decide) (by decide)).trans rfl)) ?_
              refine m_iload_n C dX11_bells_49 rfl rfl ?_
              refine m_icmp_ge (tgt := 59) C dX11_bells_50 (by decide) (fun c52 => ?_) (fun c52 => ?_)
              · have f53 : a2.toInt ≤ (gV σ 20 (a1.toInt.toNat) 2).toInt := by
                  have q : _ := c52
                  simp only [ti_nle, ti_nlt, ti_le, ti_lt, ti_eq, ti_ne, Classical.not_not] at q
                  omega
                have b54 : IV (gV σ 20 (a1.toInt.toNat) 2) 1 40 := ⟨by have q1 := b21; have q2 := u1; omega, by have q1 := b21; have q2 := u1; omega⟩
                refine m_aload C dX11_bells_59 rfl ?_
                refine m_iload_n C dX11_bells_61 rfl rfl ?_
                refine m_iconst (v := 1) C dX11_bells_62 (by decide) ?_
                refine m_bipush (v := 20) C dX11_bells_63 (by decide) ?_
                have q55 := kt_1
                have q56 := kt_20
                refine m_callV (n := 3) (ci := 6) (st := []) C (c_X7_holdsQ l G τ25 (j := (a1.toInt.toNat)) (iv_nat b11 (by decide)) (a2) (1) (20) i26 (by omega)) (by decide) (iv_nat b11 (by decide)) rfl rfl rfl q3_194 q3_191 q3_192 q3_193 q1_6 (by decide +kernel) rfl (by decide) (by decide) rfl (Nat.le_of_ble_eq_true rfl) dX11_bells_65 ?_
                rintro _ τ57 ⟨x60, rfl, i58, f59, b61, h63⟩
                have g62 : Fr MS_X11_bellsB AS_X11_bellsB σ τ57 := Fr.call (g30) f59 (by decide)
                have q64 : (gV τ57 20 (a1.toInt.toNat) 1).toInt = (gV σ 20 (a1.toInt.toNat) 1).toInt := congrArg Int32.toInt (show (gV τ57 20 (a1.toInt.toNat) 1) = (gV σ 20 (a1.toInt.toNat) 1) from (show gV τ57 20 (a1.toInt.toNat) 1 = (gV σ 20 (a1.toInt.toNat) 1) from (f59.1 20 (a1.toInt.toNat) (1) (by decide) (by decide)).trans (show gV τ25 20 (a1.toInt.toNat) 1 = (gV σ 20 (a1.toInt.toNat) 1) from (f27.1 20 (a1.toInt.toNat) (1) (by decide) (by decide)).trans (show gV τ2 20 (a1.toInt.toNat) 1 = (gV σ 20 (a1.toInt.toNat) 1) from (f4.1 20 (a1.toInt.toNat) (1) (by decide) (by decide)).trans rfl))))
                have q65 : (gV τ57 20 (a1.toInt.toNat) 2).toInt = (gV σ 20 (a1.toInt.toNat) 2).toInt := congrArg Int32.toInt (show (gV τ57 20 (a1.toInt.toNat) 2) = (gV σ 20 (a1.toInt.toNat) 2) from (show gV τ57 20 (a1.toInt.toNat) 2 = (gV σ 20 (a1.toInt.toNat) 2) from (f59.1 20 (a1.toInt.toNat) (2) (by decide) (by decide)).trans (show gV τ25 20 (a1.toInt.toNat) 2 = (gV σ 20 (a1.toInt.toNat) 2) from (f27.1 20 (a1.toInt.toNat) (2) (by decide) (by decide)).trans (show gV τ2 20 (a1.toInt.toNat) 2 = (gV σ 20 (a1.toInt.toNat) 2) from (f4.1 20 (a1.toInt.toNat) (2) (by decide) (by decide)).trans rfl))))
                rcases h63 with ⟨h63_0, h63_1⟩ | ⟨h63_0, h63_1⟩
                · skip
                  have b66 : IV x60 1 1 := ⟨by omega, by omega⟩
                  have q67 : AlI τ25 (a1.toInt.toNat) a2.toInt (1 : Int32).toInt (20 : Int32).toInt ↔ AlI σ (a1.toInt.toNat) a2.toInt 1 20 := by rw [kt_1, kt_20]; exact AlI.eq (fun i => (g30).1 21 _ i (by simp) (by decide))
                  rw [q67] at h63_1
                  show MW p l e _ s m args below meth c _ 5 G 0 0 68 [some (.ref (G.1 0 0)), some (.int a1), some (.int a2), some (.int a3), some (.ref (G.1 20 (a1.toInt.toNat)))] [.int x60] τ57
                  refine m_if_ne (tgt := 74) C dX11_bells_68 (by decide) (fun c68 => ?_) (fun c68 => ?_)
                  · have f69 : x60.toInt ≠ 0 := by
                      have q : _ := c68
                      simp only [ti_nle, ti_nlt, ti_le, ti_lt, ti_eq, ti_ne, Classical.not_not, kt_0] at q
                      omega
                    refine m_iload_n C dX11_bells_74 rfl rfl ?_
                    refine m_iload_n C dX11_bells_75 rfl rfl ?_
                    refine m_icmp_lt (tgt := 86) C dX11_bells_76 (by decide) (fun c70 => ?_) (fun c70 => ?_)
                    · have f71 : a3.toInt < a2.toInt := by
                        have q : _ := c70
                        simp only [ti_nle, ti_nlt, ti_le, ti_lt, ti_eq, ti_ne, Classical.not_not] at q
                        omega
                      have b72 : IV a3 (-1) 4 := ⟨by have q1 := b24; have q2 := b21; omega, by have q1 := b24; have q2 := b21; omega⟩
                      refine m_aload_n C dX11_bells_86 rfl rfl ?_
                      refine g_0_9 C q1_195 dX11_bells_87 ?_
                      refine m_aload C dX11_bells_90 rfl ?_
                      refine g_20_0 C (iv_nat b11 (by decide)) q1_173 dX11_bells_92 ?_
                      refine m_iload_n C dX11_bells_95 rfl rfl ?_
                      refine m_callV (n := 2) (ci := 0) (st := []) C (c_X0_findB l G τ57 (nuI σ (a1.toInt.toNat) a2.toInt.toNat) (j2 := (a1.toInt.toNat)) (iv_nat b11 (by decide)) (a2) i58 b21 (nuI_b h63_1 (by omega)) (fun i hi => by unfold nuI; rw [if_pos hi, (g62).1 21 _ i (by simp) (by decide)])) (by decide) (by decide) rfl rfl rfl q3_228 q3_225 q3_226 q3_227 q1_5 (by decide +kernel) rfl (by decide) (by decide) rfl (Nat.le_of_ble_eq_true rfl) dX11_bells_96 ?_
                      rintro _ τ73 ⟨rfl, i74, f75, h79⟩
                      have g78 : Fr MS_X11_bellsB AS_X11_bellsB σ τ73 := Fr.call (g62) f75 (by decide)
                      have q80 : (gV τ73 20 (a1.toInt.toNat) 1).toInt = (gV σ 20 (a1.toInt.toNat) 1).toInt := congrArg Int32.toInt (show (gV τ73 20 (a1.toInt.toNat) 1) = (gV σ 20 (a1.toInt.toNat) 1) from (show gV τ73 20 (a1.toInt.toNat) 1 = (gV σ 20 (a1.toInt.toNat) 1) from (f75.1 20 (a1.toInt.toNat) (1) (by decide) (by decide)).trans (show gV τ57 20 (a1.toInt.toNat) 1 = (gV σ 20 (a1.toInt.toNat) 1) from (f59.1 20 (a1.toInt.toNat) (1) (by decide) (by decide)).trans (show gV τ25 20 (a1.toInt.toNat) 1 = (gV σ 20 (a1.toInt.toNat) 1) from (f27.1 20 (a1.toInt.toNat) (1) (by decide) (by decide)).trans (show gV τ2 20 (a1.toInt.toNat) 1 = (gV σ 20 (a1.toInt.toNat) 1) from (f4.1 20 (a1.toInt.toNat) (1) (by decide) (by decide)).trans rfl)))))
                      have q81 : (gV τ73 20 (a1.toInt.toNat) 2).toInt = (gV σ 20 (a1.toInt.toNat) 2).toInt := congrArg Int32.toInt (show (gV τ73 20 (a1.toInt.toNat) 2) = (gV σ 20 (a1.toInt.toNat) 2) from (show gV τ73 20 (a1.toInt.toNat) 2 = (gV σ 20 (a1.toInt.toNat) 2) from (f75.1 20 (a1.toInt.toNat) (2) (by decide) (by decide)).trans (show gV τ57 20 (a1.toInt.toNat) 2 = (gV σ 20 (a1.toInt.toNat) 2) from (f59.1 20 (a1.toInt.toNat) (2) (by decide) (by decide)).trans (show gV τ25 20 (a1.toInt.toNat) 2 = (gV σ 20 (a1.toInt.toNat) 2) from (f27.1 20 (a1.toInt.toNat) (2) (by decide) (by decide)).trans (show gV τ2 20 (a1.toInt.toNat) 2 = (gV σ 20 (a1.toInt.toNat) 2) from (f4.1 20 (a1.toInt.toNat) (2) (by decide) (by decide)).trans rfl)))))
                      show MW p l e _ s m args below meth c _ 5 G 0 0 99 [some (.ref (G.1 0 0)), some (.int a1), some (.int a2), some (.int a3), some (.ref (G.1 20 (a1.toInt.toNat)))] [] τ73
                      refine m_aload_n C dX11_bells_99 rfl rfl ?_
                      refine m_iload_n C dX11_bells_100 rfl rfl ?_
                      refine m_iconst (v := (-1)) C dX11_bells_101 (by decide) ?_
                      refine m_icmp_ne (tgt := 115) C dX11_bells_102 (by decide) (fun c82 => ?_) (fun c82 => ?_)
                      · have f83 : a3.toInt ≠ -1 := by
                          have q : _ := c82
                          simp only [ti_nle, ti_nlt, ti_le, ti_lt, ti_eq, ti_ne, Classical.not_not, kt_m1] at q
                          omega
                        have b84 : IV a3 0 4 := ⟨by have q1 := b72; have q2 := kc_m1; omega, by have q1 := b72; have q2 := kc_m1; omega⟩
                        refine m_aload_n C dX11_bells_115 rfl rfl ?_
                        refine g_0_9 C q1_195 dX11_bells_116 ?_
                        refine g_16_3 C q1_153 dX11_bells_119 ?_
                        refine m_iload_n C dX11_bells_122 rfl rfl ?_
                        refine al_19 C b84 (by decide) rfl dX11_bells_123 ?_
                        refine m_topi (fun x85 ex85 => ?_)
                        have q86 : x85.toInt = (((bbest (nuI σ (a1.toInt.toNat) a2.toInt.toNat) a2.toInt.toNat).2.getD a3.toInt.toNat 0 : Nat) : Int) := by rw [ex85]; exact (h79.2.resolve_left (bbest_ne (nuI_b h63_1 (by omega)) (by omega) (by omega))).2 _ (by omega)
                        refine m_callV (n := 1) (ci := 10) (st := []) C (c_X11_cleanQ l G τ73 (x85) i74 ) (by decide) (by decide) rfl rfl rfl q2_7 q2_4 q2_6 q0_2 q1_1 (by decide +kernel) rfl (by decide) (by decide) rfl (Nat.le_of_ble_eq_true rfl) dX11_bells_124 ?_
                        rintro _ τ87 ⟨x90, rfl, i88, f89, b91, h93⟩
                        have g92 : Fr MS_X11_bellsB AS_X11_bellsB σ τ87 := Fr.call (g78) f89 (by decide)
                        have q94 : (gV τ87 20 (a1.toInt.toNat) 1).toInt = (gV σ 20 (a1.toInt.toNat) 1).toInt := congrArg Int32.toInt (show (gV τ87 20 (a1.toInt.toNat) 1) = (gV σ 20 (a1.toInt.toNat) 1) from (show gV τ87 20 (a1.toInt.toNat) 1 = (gV σ 20 (a1.toInt.toNat) 1) from (f89.1 20 (a1.toInt.toNat) (1) (by decide) (by decide)).trans (show gV τ73 20 (a1.toInt.toNat) 1 = (gV σ 20 (a1.toInt.toNat) 1) from (f75.1 20 (a1.toInt.toNat) (1) (by decide) (by decide)).trans (show gV τ57 20 (a1.toInt.toNat) 1 = (gV σ 20 (a1.toInt.toNat) 1) from (f59.1 20 (a1.toInt.toNat) (1) (by decide) (by decide)).trans (show gV τ25 20 (a1.toInt.toNat) 1 = (gV σ 20 (a1.toInt.toNat) 1) from (f27.1 20 (a1.toInt.toNat) (1) (by decide) (by decide)).trans (show gV τ2 20 (a1.toInt.toNat) 1 = (gV σ 20 (a1.toInt.toNat) 1) from (f4.1 20 (a1.toInt.toNat) (1) (by decide) (by decide)).trans rfl))))))
                        have q95 : (gV τ87 20 (a1.toInt.toNat) 2).toInt = (gV σ 20 (a1.toInt.toNat) 2).toInt := congrArg Int32.toInt (show (gV τ87 20 (a1.toInt.toNat) 2) = (gV σ 20 (a1.toInt.toNat) 2) from (show gV τ87 20 (a1.toInt.toNat) 2 = (gV σ 20 (a1.toInt.toNat) 2) from (f89.1 20 (a1.toInt.toNat) (2) (by decide) (by decide)).trans (show gV τ73 20 (a1.toInt.toNat) 2 = (gV σ 20 (a1.toInt.toNat) 2) from (f75.1 20 (a1.toInt.toNat) (2) (by decide) (by decide)).trans (show gV τ57 20 (a1.toInt.toNat) 2 = (gV σ 20 (a1.toInt.toNat) 2) from (f59.1 20 (a1.toInt.toNat) (2) (by decide) (by decide)).trans (show gV τ25 20 (a1.toInt.toNat) 2 = (gV σ 20 (a1.toInt.toNat) 2) from (f27.1 20 (a1.toInt.toNat) (2) (by decide) (by decide)).trans (show gV τ2 20 (a1.toInt.toNat) 2 = (gV σ 20 (a1.toInt.toNat) 2) from (f4.1 20 (a1.toInt.toNat) (2) (by decide) (by decide)).trans rfl))))))
                        show MW p l e _ s m args below meth c _ 5 G 0 0 127 [some (.ref (G.1 0 0)), some (.int a1), some (.int a2), some (.int a3), some (.ref (G.1 20 (a1.toInt.toNat)))] [.int x90] τ87
                        exact m_iret C hr hlk (by decide) (by decide) dX11_bells_127 ⟨_, rfl, i88, g92, b91, (Or.inr (Or.inr (Or.inr (Or.inr (⟨by omega, by omega, by omega, h63_1, ⟨fun g => absurd g (by omega), fun _ _ => by omega, fun g => absurd g (by omega)⟩⟩)))))⟩
                      · have f96 : a3.toInt = -1 := by
                          have q : _ := c82
                          simp only [ti_nle, ti_nlt, ti_le, ti_lt, ti_eq, ti_ne, Classical.not_not, kt_m1] at q
                          omega
                        have b97 : IV a3 (-1) (-1) := ⟨by have q1 := b72; have q2 := kc_m1; omega, by have q1 := b72; have q2 := kc_m1; omega⟩
                        refine m_aload_n C dX11_bells_105 rfl rfl ?_
                        refine g_0_9 C q1_195 dX11_bells_106 ?_
                        refine g_16_4 C q1_155 dX11_bells_109 ?_
                        refine m_topi (fun x98 ex98 => ?_)
                        have q99 : x98.toInt = (bbest (nuI σ (a1.toInt.toNat) a2.toInt.toNat) a2.toInt.toNat).1 := by rw [ex98]; exact h79.1
                        refine m_goto (tgt := 124) C dX11_bells_112 (by decide) ?_
                        refine m_callV (n := 1) (ci := 10) (st := []) C (c_X11_cleanQ l G τ73 (x98) i74 ) (by decide) (by decide) rfl rfl rfl q2_7 q2_4 q2_6 q0_2 q1_1 (by decide +kernel) rfl (by decide) (by decide) rfl (Nat.le_of_ble_eq_true rfl) dX11_bells_124 ?_
                        rintro _ τ100 ⟨x103, rfl, i101, f102, b104, h106⟩
                        have g105 : Fr MS_X11_bellsB AS_X11_bellsB σ τ100 := Fr.call (g78) f102 (by decide)
                        have q107 : (gV τ100 20 (a1.toInt.toNat) 1).toInt = (gV σ 20 (a1.toInt.toNat) 1).toInt := congrArg Int32.toInt (show (gV τ100 20 (a1.toInt.toNat) 1) = (gV σ 20 (a1.toInt.toNat) 1) from (show gV τ100 20 (a1.toInt.toNat) 1 = (gV σ 20 (a1.toInt.toNat) 1) from (f102.1 20 (a1.toInt.toNat) (1) (by decide) (by decide)).trans (show gV τ73 20 (a1.toInt.toNat) 1 = (gV σ 20 (a1.toInt.toNat) 1) from (f75.1 20 (a1.toInt.toNat) (1) (by decide) (by decide)).trans (show gV τ57 20 (a1.toInt.toNat) 1 = (gV σ 20 (a1.toInt.toNat) 1) from (f59.1 20 (a1.toInt.toNat) (1) (by decide) (by decide)).trans (show gV τ25 20 (a1.toInt.toNat) 1 = (gV σ 20 (a1.toInt.toNat) 1) from (f27.1 20 (a1.toInt.toNat) (1) (by decide) (by decide)).trans (show gV τ2 20 (a1.toInt.toNat) 1 = (gV σ 20 (a1.toInt.toNat) 1) from (f4.1 20 (a1.toInt.toNat) (1) (by decide) (by decide)).trans rfl))))))
                        have q108 : (gV τ100 20 (a1.toInt.toNat) 2).toInt = (gV σ 20 (a1.toInt.toNat) 2).toInt := congrArg Int32.toInt (show (gV τ100 20 (a1.toInt.toNat) 2) = (gV σ 20 (a1.toInt.toNat) 2) from (show gV τ100 20 (a1.toInt.toNat) 2 = (gV σ 20 (a1.toInt.toNat) 2) from (f102.1 20 (a1.toInt.toNat) (2) (by decide) (by decide)).trans (show gV τ73 20 (a1.toInt.toNat) 2 = (gV σ 20 (a1.toInt.toNat) 2) from (f75.1 20 (a1.toInt.toNat) (2) (by decide) (by decide)).trans (show gV τ57 20 (a1.toInt.toNat) 2 = (gV σ 20 (a1.toInt.toNat) 2) from (f59.1 20 (a1.toInt.toNat) (2) (by decide) (by decide)).trans (show gV τ25 20 (a1.toInt.toNat) 2 = (gV σ 20 (a1.toInt.toNat) 2) from (f27.1 20 (a1.toInt.toNat) (2) (by decide) (by decide)).trans (show gV τ2 20 (a1.toInt.toNat) 2 = (gV σ 20 (a1.toInt.toNat) 2) from (f4.1 20 (a1.toInt.toNat) (2) (by decide) (by decide)).trans rfl))))))
                        show MW p l e _ s m args below meth c _ 5 G 0 0 127 [some (.ref (G.1 0 0)), some (.int a1), some (.int a2), some (.int a3), some (.ref (G.1 20 (a1.toInt.toNat)))] [.int x103] τ100
                        exact m_iret C hr hlk (by decide) (by decide) dX11_bells_127 ⟨_, rfl, i101, g105, b104, (Or.inr (Or.inr (Or.inr (Or.inr (⟨by omega, by omega, by omega, h63_1, ⟨fun _ => by omega, fun g => absurd g (by omega), fun g => absurd g (by omega)⟩⟩)))))⟩
                    · have f109 : a2.toInt ≤ a3.toInt := by
                        have q : _ := c70
                        simp only [ti_nle, ti_nlt, ti_le, ti_lt, ti_eq, ti_ne, Classical.not_not] at q
                        omega
                      have b110 : IV a3 1 2147483647 := ⟨by have q1 := b21; have q2 := b24; omega, by have q1 := b21; have q2 := b24; omega⟩
                      refine m_aload_n C dX11_bells_79 rfl rfl ?_
                      refine m_ldc (v := (-1000000)) C dX11_bells_80 q3_43 ?_
                      have q111 := kt_m1000000
                      refine m_callV (n := 1) (ci := 10) (st := []) C (c_X11_cleanQ l G τ57 ((-1000000)) i58 ) (by decide) (by decide) rfl rfl rfl q2_7 q2_4 q2_6 q0_2 q1_1 (by decide +kernel) rfl (by decide) (by decide) rfl (Nat.le_of_ble_eq_true rfl) dX11_bells_82 ?_
                      rintro _ τ112 ⟨x115, rfl, i113, f114, b116, h118⟩
                      have g117 : Fr MS_X11_bellsB AS_X11_bellsB σ τ112 := Fr.call (g62) f114 (by decide)
                      have q119 : (gV τ112 20 (a1.toInt.toNat) 1).toInt = (gV σ 20 (a1.toInt.toNat) 1).toInt := congrArg Int32.toInt (show (gV τ112 20 (a1.toInt.toNat) 1) = (gV σ 20 (a1.toInt.toNat) 1) from (show gV τ112 20 (a1.toInt.toNat) 1 = (gV σ 20 (a1.toInt.toNat) 1) from (f114.1 20 (a1.toInt.toNat) (1) (by decide) (by decide)).trans (show gV τ57 20 (a1.toInt.toNat) 1 = (gV σ 20 (a1.toInt.toNat) 1) from (f59.1 20 (a1.toInt.toNat) (1) (by decide) (by decide)).trans (show gV τ25 20 (a1.toInt.toNat) 1 = (gV σ 20 (a1.toInt.toNat) 1) from (f27.1 20 (a1.toInt.toNat) (1) (by decide) (by decide)).trans (show gV τ2 20 (a1.toInt.toNat) 1 = (gV σ 20 (a1.toInt.toNat) 1) from (f4.1 20 (a1.toInt.toNat) (1) (by decide) (by decide)).trans rfl)))))
                      have q120 : (gV τ112 20 (a1.toInt.toNat) 2).toInt = (gV σ 20 (a1.toInt.toNat) 2).toInt := congrArg Int32.toInt (show (gV τ112 20 (a1.toInt.toNat) 2) = (gV σ 20 (a1.toInt.toNat) 2) from (show gV τ112 20 (a1.toInt.toNat) 2 = (gV σ 20 (a1.toInt.toNat) 2) from (f114.1 20 (a1.toInt.toNat) (2) (by decide) (by decide)).trans (show gV τ57 20 (a1.toInt.toNat) 2 = (gV σ 20 (a1.toInt.toNat) 2) from (f59.1 20 (a1.toInt.toNat) (2) (by decide) (by decide)).trans (show gV τ25 20 (a1.toInt.toNat) 2 = (gV σ 20 (a1.toInt.toNat) 2) from (f27.1 20 (a1.toInt.toNat) (2) (by decide) (by decide)).trans (show gV τ2 20 (a1.toInt.toNat) 2 = (gV σ 20 (a1.toInt.toNat) 2) from (f4.1 20 (a1.toInt.toNat) (2) (by decide) (by decide)).trans rfl)))))
                      have q121 := kt_m1000000
                      show MW p l e _ s m args below meth c _ 5 G 0 0 85 [some (.ref (G.1 0 0)), some (.int a1), some (.int a2), some (.int a3), some (.ref (G.1 20 (a1.toInt.toNat)))] [.int x115] τ112
                      exact m_iret C hr hlk (by decide) (by decide) dX11_bells_85 ⟨_, rfl, i113, g117, b116, (Or.inr (Or.inr (Or.inr (Or.inr (⟨by omega, by omega, by omega, h63_1, ⟨fun g => absurd g (by omega), fun _ g => absurd g (by omega), fun _ => by omega⟩⟩)))))⟩
                  · exfalso
                    have q : _ := c68
                    simp only [ti_nle, ti_nlt, ti_le, ti_lt, ti_eq, ti_ne, Classical.not_not, kt_0] at q
                    have q1 := b66; have q2 := kc_0; omega
                · skip
                  have b123 : IV x60 0 0 := ⟨by omega, by omega⟩
                  have q124 : AlI τ25 (a1.toInt.toNat) a2.toInt (1 : Int32).toInt (20 : Int32).toInt ↔ AlI σ (a1.toInt.toNat) a2.toInt 1 20 := by rw [kt_1, kt_20]; exact AlI.eq (fun i => (g30).1 21 _ i (by simp) (by decide))
                  rw [q124] at h63_1
                  show MW p l e _ s m args below meth c _ 5 G 0 0 68 [some (.ref (G.1 0 0)), some (.int a1), some (.int a2), some (.int a3), some (.ref (G.1 20 (a1.toInt.toNat)))] [.int x60] τ57
                  refine m_if_ne (tgt := 74) C dX11_bells_68 (by decide) (fun c125 => ?_) (fun c125 => ?_)
                  · exfalso
                    have q : _ := c125
                    simp only [ti_nle, ti_nlt, ti_le, ti_lt, ti_eq, ti_ne, Classical.not_not, kt_0] at q
                    have q1 := b123; have q2 := kc_0; omega
                  · have f127 : x60.toInt = 0 := by
                      have q : _ := c125
                      simp only [ti_nle, ti_nlt, ti_le, ti_lt, ti_eq, ti_ne, Classical.not_not, kt_0] at q
                      omega
                    refine m_ldc (v := (-1000001)) C dX11_bells_71 q1_234 ?_
                    exact m_iret C hr hlk (by decide) (by decide) dX11_bells_73 ⟨_, rfl, i58, g62, (iv_wk kc_m1000001 (by decide)), (Or.inr (Or.inr (Or.inr (Or.inl ⟨by have qk := kt_m1000001; omega, by have qk := kt_m1000001; omega, by have qk := kt_m1000001; omega, h63_1, by have qk := kt_m1000001; omega⟩))))⟩
              · have f128 : (gV σ 20 (a1.toInt.toNat) 2).toInt < a2.toInt := by
                  have q : _ := c52
                  simp only [ti_nle, ti_nlt, ti_le, ti_lt, ti_eq, ti_ne, Classical.not_not] at q
                  omega
                have b129 : IV (gV σ 20 (a1.toInt.toNat) 2) 0 4 := ⟨by have q1 := u1; have q2 := b21; omega, by have q1 := u1; have q2 := b21; omega⟩
                refine m_aload_n C dX11_bells_53 rfl rfl ?_
                refine m_iconst (v := 2) C dX11_bells_54 (by decide) ?_
                have q130 := kt_2
                refine m_callV (n := 1) (ci := 10) (st := []) C (c_X11_foundQ l G τ25 (2) i26 (iv_wk kc_2 (by decide))) (by decide) (by decide) rfl rfl rfl q1_238 q1_235 q1_237 q0_1 q1_1 (by decide +kernel) rfl (by decide) (by decide) rfl (Nat.le_of_ble_eq_true rfl) dX11_bells_55 ?_
                rintro _ τ131 ⟨x134, rfl, i132, f133, b135, h137⟩
                have g136 : Fr MS_X11_bellsB AS_X11_bellsB σ τ131 := Fr.call (g30) f133 (by decide)
                have q138 : (gV τ131 20 (a1.toInt.toNat) 1).toInt = (gV σ 20 (a1.toInt.toNat) 1).toInt := congrArg Int32.toInt (show (gV τ131 20 (a1.toInt.toNat) 1) = (gV σ 20 (a1.toInt.toNat) 1) from (show gV τ131 20 (a1.toInt.toNat) 1 = (gV σ 20 (a1.toInt.toNat) 1) from (f133.1 20 (a1.toInt.toNat) (1) (by decide) (by decide)).trans (show gV τ25 20 (a1.toInt.toNat) 1 = (gV σ 20 (a1.toInt.toNat) 1) from (f27.1 20 (a1.toInt.toNat) (1) (by decide) (by decide)).trans (show gV τ2 20 (a1.toInt.toNat) 1 = (gV σ 20 (a1.toInt.toNat) 1) from (f4.1 20 (a1.toInt.toNat) (1) (by decide) (by decide)).trans rfl))))
                have q139 : (gV τ131 20 (a1.toInt.toNat) 2).toInt = (gV σ 20 (a1.toInt.toNat) 2).toInt := congrArg Int32.toInt (show (gV τ131 20 (a1.toInt.toNat) 2) = (gV σ 20 (a1.toInt.toNat) 2) from (show gV τ131 20 (a1.toInt.toNat) 2 = (gV σ 20 (a1.toInt.toNat) 2) from (f133.1 20 (a1.toInt.toNat) (2) (by decide) (by decide)).trans (show gV τ25 20 (a1.toInt.toNat) 2 = (gV σ 20 (a1.toInt.toNat) 2) from (f27.1 20 (a1.toInt.toNat) (2) (by decide) (by decide)).trans (show gV τ2 20 (a1.toInt.toNat) 2 = (gV σ 20 (a1.toInt.toNat) 2) from (f4.1 20 (a1.toInt.toNat) (2) (by decide) (by decide)).trans rfl))))
                have q140 := kt_2
                show MW p l e _ s m args below meth c _ 5 G 0 0 58 [some (.ref (G.1 0 0)), some (.int a1), some (.int a2), some (.int a3), some (.ref (G.1 20 (a1.toInt.toNat)))] [.int x134] τ131
                exact m_iret C hr hlk (by decide) (by decide) dX11_bells_58 ⟨_, rfl, i132, g136, (iv_wk b135 (by decide)), (Or.inr (Or.inr (Or.inl ⟨by omega, by omega, by omega, by omega⟩)))⟩
            · exfalso
              have q : _ := c50
              simp only [ti_nle, ti_nlt, ti_le, ti_lt, ti_eq, ti_ne, Classical.not_not, kt_0] at q
              have q1 := b49; have q2 := kc_0; omega
        · have f142 : a3.toInt < -1 := by
            have q : _ := c22
            simp only [ti_nle, ti_nlt, ti_le, ti_lt, ti_eq, ti_ne, Classical.not_not, kt_m1] at q
            omega
          have b143 : IV a3 (-2147483648) (-2) := ⟨by have q1 := (iv_any a3); have q2 := kc_m1; omega, by have q1 := (iv_any a3); have q2 := kc_m1; omega⟩
          refine m_ldc (v := (-1000001)) C dX11_bells_27 q1_234 ?_
          exact m_iret C hr hlk (by decide) (by decide) dX11_bells_29 ⟨_, rfl, i3, g7, (iv_wk kc_m1000001 (by decide)), (Or.inl ⟨by have qk := kt_m1000001; omega, by have qk := kt_m1000001; omega⟩)⟩
