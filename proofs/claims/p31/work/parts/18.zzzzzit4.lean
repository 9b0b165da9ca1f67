abbrev MS_X11_bellsQ : List (Nat × Nat) := [(0, 12), (16, 2), (16, 4)]
abbrev AS_X11_bellsQ : List Nat := [17, 18, 19]
set_option maxHeartbeats 4000000 in
set_option maxRecDepth 100000 in
theorem c_X11_bellsQ (l : Launch) (G : Gt) (σ : Sg) (a1 : Int32) (a2 : Int32) (a3 : Int32) (hI : Inv σ) : Mc l G yX11_bells cX11_bells 5 (some .int) 8 245 0 0 [.ref (G.1 0 0), .int a1, .int a2, .int a3] σ (PI fun r τ => Inv τ ∧ Fr MS_X11_bellsQ AS_X11_bellsQ σ τ ∧ IV r (-2147483648) 2147483647 ∧ BLC σ τ a1 a3 a2.toInt) := by
  refine Mc.of (L0 := [some (.ref (G.1 0 0)), some (.int a1), some (.int a2), some (.int a3), none]) (by decide) (Nat.le_of_ble_eq_true rfl) rfl ?_
  intro p e s m args below meth c C hr hlk
  have C : Cx p s m args c cX11_bells 5 "LeanTower" := C
  have k0 : (0 : Int32).toInt = 0 := by decide
  have k1 : (1 : Int32).toInt = 1 := by decide
  have u1 : IV (gV σ 20 (a1.toInt.toNat) 2) 0 40 := hI.1 20 (a1.toInt.toNat) 2
  refine m_aload_n C dX11_bells_0 rfl rfl ?_
  refine m_iload_n C dX11_bells_1 rfl rfl ?_
  refine m_callV (n := 1) (ci := 10) (st := []) C (c_X11_rowAt l G σ (a1) hI ) (by decide) (by decide) rfl rfl rfl q1_233 q1_230 q1_232 q0_0 q1_1 (by decide +kernel) rfl (by decide) (by decide) rfl (Nat.le_of_ble_eq_true rfl) dX11_bells_2 ?_
  rintro _ τ2 ⟨x5, rfl, i3, f4, h8⟩
  have g7 : Fr MS_X11_bellsQ AS_X11_bellsQ σ τ2 := Fr.call (Fr.rf) f4 (by decide)
  have q9 : (gV τ2 0 0 12).toInt = (gV σ 0 0 12).toInt := congrArg Int32.toInt (show (gV τ2 0 0 12) = (gV σ 0 0 12) from (show gV τ2 0 0 12 = (gV σ 0 0 12) from (f4.1 0 0 (12) (by decide) (by decide)).trans rfl))
  have q10 : (gV τ2 20 (a1.toInt.toNat) 1).toInt = (gV σ 20 (a1.toInt.toNat) 1).toInt := congrArg Int32.toInt (show (gV τ2 20 (a1.toInt.toNat) 1) = (gV σ 20 (a1.toInt.toNat) 1) from (show gV τ2 20 (a1.toInt.toNat) 1 = (gV σ 20 (a1.toInt.toNat) 1) from (f4.1 20 (a1.toInt.toNat) (1) (by decide) (by decide)).trans rfl))
  have q11 : (gV τ2 20 (a1.toInt.toNat) 2).toInt = (gV σ 20 (a1.toInt.toNat) 2).toInt := congrArg Int32.toInt (show (gV τ2 20 (a1.toInt.toNat) 2) = (gV σ 20 (a1.toInt.toNat) 2) from (show gV τ2 20 (a1.toInt.toNat) 2 = (gV σ 20 (a1.toInt.toNat) 2) from (f4.1 20 (a1.toInt.toNat) (2) (by decide) (by decide)).trans rfl))
  rcases h8 with ⟨rfl, x5q⟩ | ⟨rfl, x5q⟩
  · skip
    show MW p l e _ s m args below meth c _ 5 G 0 0 5 [some (.ref (G.1 0 0)), some (.int a1), some (.int a2), some (.int a3), none] [.null] τ2
    refine m_astoreN (L1 := [some (.ref (G.1 0 0)), some (.int a1), some (.int a2), some (.int a3), some (.null)]) C dX11_bells_5 (by decide) rfl rfl ?_
    refine m_aloadN C dX11_bells_7 rfl ?_
    refine m_ifnullN (tgt := 27) C dX11_bells_9 (by decide) ?_
    refine m_ldc (v := (-1000001)) C dX11_bells_27 q1_234 ?_
    exact m_iret C hr hlk (by decide) (by decide) dX11_bells_29 ⟨_, rfl, i3, g7, (iv_wk kc_m1000001 (by decide)), (Or.inl ⟨by have qk := kt_m1000001; omega, by have qk := kt_m1000001; omega⟩)⟩
  · have b12 : IV a1 0 7 := ⟨by have q1 := (iv_any a1); omega, by have q1 := (iv_any a1); omega⟩
    show MW p l e _ s m args below meth c _ 5 G 0 0 5 [some (.ref (G.1 0 0)), some (.int a1), some (.int a2), some (.int a3), none] [.ref (G.1 20 (a1.toInt.toNat))] τ2
    refine m_astore (L1 := [some (.ref (G.1 0 0)), some (.int a1), some (.int a2), some (.int a3), some (.ref (G.1 20 (a1.toInt.toNat)))]) C dX11_bells_5 (by decide) rfl rfl ?_
    refine m_aload C dX11_bells_7 rfl ?_
    refine m_ifnull C dX11_bells_9 ?_
    refine m_iload_n C dX11_bells_12 rfl rfl ?_
    refine m_iconst (v := 1) C dX11_bells_13 (by decide) ?_
    refine m_icmp_lt (tgt := 27) C dX11_bells_14 (by decide) (fun c13 => ?_) (fun c13 => ?_)
    · have f14 : a2.toInt < 1 := by
        have q : _ := c13
        simp only [ti_nle, ti_nlt, ti_le, ti_lt, ti_eq, ti_ne, Classical.not_not, kt_1] at q
        omega
      have b15 : IV a2 (-2147483648) 0 := ⟨by have q1 := (iv_any a2); have q2 := kc_1; omega, by have q1 := (iv_any a2); have q2 := kc_1; omega⟩
      refine m_ldc (v := (-1000001)) C dX11_bells_27 q1_234 ?_
      exact m_iret C hr hlk (by decide) (by decide) dX11_bells_29 ⟨_, rfl, i3, g7, (iv_wk kc_m1000001 (by decide)), (Or.inl ⟨by have qk := kt_m1000001; omega, by have qk := kt_m1000001; omega⟩)⟩
    · have f16 : 1 ≤ a2.toInt := by
        have q : _ := c13
        simp only [ti_nle, ti_nlt, ti_le, ti_lt, ti_eq, ti_ne, Classical.not_not, kt_1] at q
        omega
      have b17 : IV a2 1 2147483647 := ⟨by have q1 := kc_1; have q2 := (iv_any a2); omega, by have q1 := kc_1; have q2 := (iv_any a2); omega⟩
      refine m_iload_n C dX11_bells_17 rfl rfl ?_
      refine m_iconst (v := 5) C dX11_bells_18 (by decide) ?_
      refine m_icmp_gt (tgt := 27) C dX11_bells_19 (by decide) (fun c18 => ?_) (fun c18 => ?_)
      · have f19 : 5 < a2.toInt := by
          have q : _ := c18
          simp only [ti_nle, ti_nlt, ti_le, ti_lt, ti_eq, ti_ne, Classical.not_not, kt_5] at q
          omega
        have b20 : IV a2 6 2147483647 := ⟨by have q1 := kc_5; have q2 := b17; omega, by have q1 := kc_5; have q2 := b17; omega⟩
        refine m_ldc (v := (-1000001)) C dX11_bells_27 q1_234 ?_
        exact m_iret C hr hlk (by decide) (by decide) dX11_bells_29 ⟨_, rfl, i3, g7, (iv_wk kc_m1000001 (by decide)), (Or.inl ⟨by have qk := kt_m1000001; omega, by have qk := kt_m1000001; omega⟩)⟩
      · have f21 : a2.toInt ≤ 5 := by
          have q : _ := c18
          simp only [ti_nle, ti_nlt, ti_le, ti_lt, ti_eq, ti_ne, Classical.not_not, kt_5] at q
          omega
        have b22 : IV a2 1 5 := ⟨by have q1 := b17; have q2 := kc_5; omega, by have q1 := b17; have q2 := kc_5; omega⟩
        refine m_iload_n C dX11_bells_22 rfl rfl ?_
        refine m_iconst (v := (-1)) C dX11_bells_23 (by decide) ?_
        refine m_icmp_ge (tgt := 30) C dX11_bells_24 (by decide) (fun c23 => ?_) (fun c23 => ?_)
        · have f24 : -1 ≤ a3.toInt := by
            have q : _ := c23
            simp only [ti_nle, ti_nlt, ti_le, ti_lt, ti_eq, ti_ne, Classical.not_not, kt_m1] at q
            omega
          have b25 : IV a3 (-1) 2147483647 := ⟨by have q1 := kc_m1; have q2 := (iv_any a3); omega, by have q1 := kc_m1; have q2 := (iv_any a3); omega⟩
          refine m_aload C dX11_bells_30 rfl ?_
          refine m_callV (n := 0) (ci := 6) (st := []) C (c_X7_isMissingE l G τ2 (j := (a1.toInt.toNat)) (iv_nat b12 (by decide))  i3 ) (by decide) (iv_nat b12 (by decide)) rfl rfl rfl q2_15 q2_12 q2_13 q2_14 q1_6 (by decide +kernel) rfl (by decide) (by decide) rfl (Nat.le_of_ble_eq_true rfl) dX11_bells_32 ?_
          rintro _ τ26 ⟨x29, rfl, i27, f28, b30, h32⟩
          have g31 : Fr MS_X11_bellsQ AS_X11_bellsQ σ τ26 := Fr.call (g7) f28 (by decide)
          have q33 : (gV τ26 0 0 12).toInt = (gV σ 0 0 12).toInt := congrArg Int32.toInt (show (gV τ26 0 0 12) = (gV σ 0 0 12) from (show gV τ26 0 0 12 = (gV σ 0 0 12) from (f28.1 0 0 (12) (by decide) (by decide)).trans (show gV τ2 0 0 12 = (gV σ 0 0 12) from (f4.1 0 0 (12) (by decide) (by decide)).trans rfl)))
          have q34 : (gV τ26 20 (a1.toInt.toNat) 1).toInt = (gV σ 20 (a1.toInt.toNat) 1).toInt := congrArg Int32.toInt (show (gV τ26 20 (a1.toInt.toNat) 1) = (gV σ 20 (a1.toInt.toNat) 1) from (show gV τ26 20 (a1.toInt.toNat) 1 = (gV σ 20 (a1.toInt.toNat) 1) from (f28.1 20 (a1.toInt.toNat) (1) (by decide) (by decide)).trans (show gV τ2 20 (a1.toInt.toNat) 1 = (gV σ 20 (a1.toInt.toNat) 1) from (f4.1 20 (a1.toInt.toNat) (1) (by decide) (by decide)).trans rfl)))
          have q35 : (gV τ26 20 (a1.toInt.toNat) 2).toInt = (gV σ 20 (a1.toInt.toNat) 2).toInt := congrArg Int32.toInt (show (gV τ26 20 (a1.toInt.toNat) 2) = (gV σ 20 (a1.toInt.toNat) 2) from (show gV τ26 20 (a1.toInt.toNat) 2 = (gV σ 20 (a1.toInt.toNat) 2) from (f28.1 20 (a1.toInt.toNat) (2) (by decide) (by decide)).trans (show gV τ2 20 (a1.toInt.toNat) 2 = (gV σ 20 (a1.toInt.toNat) 2) from (f4.1 20 (a1.toInt.toNat) (2) (by decide) (by decide)).trans rfl)))
          rcases h32 with ⟨h32_0, h32_1⟩ | ⟨h32_0, h32_1⟩
          · skip
            have b36 : IV x29 1 1 := ⟨by omega, by omega⟩
            show MW p l e _ s m args below meth c _ 5 G 0 0 35 [some (.ref (G.1 0 0)), some (.int a1), some (.int a2), some (.int a3), some (.ref (G.1 20 (a1.toInt.toNat)))] [.int x29] τ26
            refine m_if_eq (tgt := 44) C dX11_bells_35 (by decide) (fun c37 => ?_) (fun c37 => ?_)
            · exfalso
              have q : _ := c37
              simp only [ti_nle, ti_nlt, ti_le, ti_lt, ti_eq, ti_ne, Classical.not_not, kt_0] at q
              have q1 := b36; have q2 := kc_0; omega
            · have f39 : x29.toInt ≠ 0 := by
                have q : _ := c37
                simp only [ti_nle, ti_nlt, ti_le, ti_lt, ti_eq, ti_ne, Classical.not_not, kt_0] at q
                omega
              refine m_aload_n C dX11_bells_38 rfl rfl ?_
              refine m_iconst (v := 1) C dX11_bells_39 (by decide) ?_
              have q40 := kt_1
              refine m_callV (n := 1) (ci := 10) (st := []) C (c_X11_foundQ l G τ26 (1) i27 (iv_wk kc_1 (by decide))) (by decide) (by decide) rfl rfl rfl q1_238 q1_235 q1_237 q0_1 q1_1 (by decide +kernel) rfl (by decide) (by decide) rfl (Nat.le_of_ble_eq_true rfl) dX11_bells_40 ?_
              rintro _ τ41 ⟨x44, rfl, i42, f43, b45, h47⟩
              have g46 : Fr MS_X11_bellsQ AS_X11_bellsQ σ τ41 := Fr.call (g31) f43 (by decide)
              have q48 : (gV τ41 20 (a1.toInt.toNat) 1).toInt = (gV σ 20 (a1.toInt.toNat) 1).toInt := congrArg Int32.toInt (show (gV τ41 20 (a1.toInt.toNat) 1) = (gV σ 20 (a1.toInt.toNat) 1) from (show gV τ41 20 (a1.toInt.toNat) 1 = (gV σ 20 (a1.toInt.toNat) 1) from (f43.1 20 (a1.toInt.toNat) (1) (by decide) (by decide)).trans (show gV τ26 20 (a1.toInt.toNat) 1 = (gV σ 20 (a1.toInt.toNat) 1) from (f28.1 20 (a1.toInt.toNat) (1) (by decide) (by decide)).trans (show gV τ2 20 (a1.toInt.toNat) 1 = (gV σ 20 (a1.toInt.toNat) 1) from (f4.1 20 (a1.toInt.toNat) (1) (by decide) (by decide)).trans rfl))))
              have q49 : (gV τ41 20 (a1.toInt.toNat) 2).toInt = (gV σ 20 (a1.toInt.toNat) 2).toInt := congrArg Int32.toInt (show (gV τ41 20 (a1.toInt.toNat) 2) = (gV σ 20 (a1.toInt.toNat) 2) from (show gV τ41 20 (a1.toInt.toNat) 2 = (gV σ 20 (a1.toInt.toNat) 2) from (f43.1 20 (a1.toInt.toNat) (2) (by decide) (by decide)).trans (show gV τ26 20 (a1.toInt.toNat) 2 = (gV σ 20 (a1.toInt.toNat) 2) from (f28.1 20 (a1.toInt.toNat) (2) (by decide) (by decide)).trans (show gV τ2 20 (a1.toInt.toNat) 2 = (gV σ 20 (a1.toInt.toNat) 2) from (f4.1 20 (a1.toInt.toNat) (2) (by decide) (by decide)).trans rfl))))
              have q50 := kt_1
              show MW p l e _ s m args below meth c _ 5 G 0 0 43 [some (.ref (G.1 0 0)), some (.int a1), some (.int a2), some (.int a3), some (.ref (G.1 20 (a1.toInt.toNat)))] [.int x44] τ41
              exact m_iret C hr hlk (by decide) (by decide) dX11_bells_43 ⟨_, rfl, i42, g46, (iv_wk b45 (by decide)), (Or.inr (Or.inl ⟨by omega, by omega, by omega⟩))⟩
          · skip
            have b51 : IV x29 0 0 := ⟨by omega, by omega⟩
            show MW p l e _ s m args below meth c _ 5 G 0 0 35 [some (.ref (G.1 0 0)), some (.int a1), some (.int a2), some (.int a3), some (.ref (G.1 20 (a1.toInt.toNat)))] [.int x29] τ26
            refine m_if_eq (tgt := 44) C dX11_bells_35 (by decide) (fun c52 => ?_) (fun c52 => ?_)
            · have f53 : x29.toInt = 0 := by
                have q : _ := c52
                simp only [ti_nle, ti_nlt, ti_le, ti_lt, ti_eq, ti_ne, Classical.not_not, kt_0] at q
                omega
              refine m_aload C dX11_bells_44 rfl ?_
              refine g_20_2 C (iv_nat b12 (by decide)) q1_177 dX11_bells_46 ?_
              refine m_eqs (w := (gV σ 20 (a1.toInt.toNat) 2)) (show gV τ26 20 (a1.toInt.toNat) 2 = (gV σ 20 (a1.toInt.toNat) 2) from (f28.1 20 (a1.toInt.toNat) (2) (by decide) (by decide)).trans (show gV τ2 20 (a1.toInt.toNat) 2 = (gV σ 20 (a1.toInt.toNat) 2) from (f4.1 20 (a1.toInt.toNat) (2) (by decide) (by decide)).trans rfl)) ?_
              refine m_iload_n C dX11_bells_49 rfl rfl ?_
              refine m_icmp_ge (tgt := 59) C dX11_bells_50 (by decide) (fun c54 => ?_) (fun c54 => ?_)
              · have f55 : a2.toInt ≤ (gV σ 20 (a1.toInt.toNat) 2).toInt := by
                  have q : _ := c54
                  simp only [ti_nle, ti_nlt, ti_le, ti_lt, ti_eq, ti_ne, Classical.not_not] at q
                  omega
                have b56 : IV (gV σ 20 (a1.toInt.toNat) 2) 1 40 := ⟨by have q1 := b22; have q2 := u1; omega, by have q1 := b22; have q2 := u1; omega⟩
                refine m_aload C dX11_bells_59 rfl ?_
                refine m_iload_n C dX11_bells_61 rfl rfl ?_
                refine m_iconst (v := 1) C dX11_bells_62 (by decide) ?_
                refine m_bipush (v := 20) C dX11_bells_63 (by decide) ?_
                have q57 := kt_1
                have q58 := kt_20
                refine m_callV (n := 3) (ci := 6) (st := []) C (c_X7_holdsQ l G τ26 (j := (a1.toInt.toNat)) (iv_nat b12 (by decide)) (a2) (1) (20) i27 (by omega)) (by decide) (iv_nat b12 (by decide)) rfl rfl rfl q3_194 q3_191 q3_192 q3_193 q1_6 (by decide +kernel) rfl (by decide) (by decide) rfl (Nat.le_of_ble_eq_true rfl) dX11_bells_65 ?_
                rintro _ τ59 ⟨x62, rfl, i60, f61, b63, h65⟩
                have g64 : Fr MS_X11_bellsQ AS_X11_bellsQ σ τ59 := Fr.call (g31) f61 (by decide)
                have q66 : (gV τ59 0 0 12).toInt = (gV σ 0 0 12).toInt := congrArg Int32.toInt (show (gV τ59 0 0 12) = (gV σ 0 0 12) from (show gV τ59 0 0 12 = (gV σ 0 0 12) from (f61.1 0 0 (12) (by decide) (by decide)).trans (show gV τ26 0 0 12 = (gV σ 0 0 12) from (f28.1 0 0 (12) (by decide) (by decide)).trans (show gV τ2 0 0 12 = (gV σ 0 0 12) from (f4.1 0 0 (12) (by decide) (by decide)).trans rfl))))
                have q67 : (gV τ59 20 (a1.toInt.toNat) 1).toInt = (gV σ 20 (a1.toInt.toNat) 1).toInt := congrArg Int32.toInt (show (gV τ59 20 (a1.toInt.toNat) 1) = (gV σ 20 (a1.toInt.toNat) 1) from (show gV τ59 20 (a1.toInt.toNat) 1 = (gV σ 20 (a1.toInt.toNat) 1) from (f61.1 20 (a1.toInt.toNat) (1) (by decide) (by decide)).trans (show gV τ26 20 (a1.toInt.toNat) 1 = (gV σ 20 (a1.toInt.toNat) 1) from (f28.1 20 (a1.toInt.toNat) (1) (by decide) (by decide)).trans (show gV τ2 20 (a1.toInt.toNat) 1 = (gV σ 20 (a1.toInt.toNat) 1) from (f4.1 20 (a1.toInt.toNat) (1) (by decide) (by decide)).trans rfl))))
                have q68 : (gV τ59 20 (a1.toInt.toNat) 2).toInt = (gV σ 20 (a1.toInt.toNat) 2).toInt := congrArg Int32.toInt (show (gV τ59 20 (a1.toInt.toNat) 2) = (gV σ 20 (a1.toInt.toNat) 2) from (show gV τ59 20 (a1.toInt.toNat) 2 = (gV σ 20 (a1.toInt.toNat) 2) from (f61.1 20 (a1.toInt.toNat) (2) (by decide) (by decide)).trans (show gV τ26 20 (a1.toInt.toNat) 2 = (gV σ 20 (a1.toInt.toNat) 2) from (f28.1 20 (a1.toInt.toNat) (2) (by decide) (by decide)).trans (show gV τ2 20 (a1.toInt.toNat) 2 = (gV σ 20 (a1.toInt.toNat) 2) from (f4.1 20 (a1.toInt.toNat) (2) (by decide) (by decide)).trans rfl))))
                rcases h65 with ⟨h65_0, h65_1⟩ | ⟨h65_0, h65_1⟩
                · skip
                  have b69 : IV x62 1 1 := ⟨by omega, by omega⟩
                  have q70 : AlI τ26 (a1.toInt.toNat) a2.toInt (1 : Int32).toInt (20 : Int32).toInt ↔ AlI σ (a1.toInt.toNat) a2.toInt 1 20 := by rw [kt_1, kt_20]; exact AlI.eq (fun i => (g31).1 21 _ i (by simp) (by decide))
                  rw [q70] at h65_1
                  show MW p l e _ s m args below meth c _ 5 G 0 0 68 [some (.ref (G.1 0 0)), some (.int a1), some (.int a2), some (.int a3), some (.ref (G.1 20 (a1.toInt.toNat)))] [.int x62] τ59
                  refine m_if_ne (tgt := 74) C dX11_bells_68 (by decide) (fun c71 => ?_) (fun c71 => ?_)
                  · have f72 : x62.toInt ≠ 0 := by
                      have q : _ := c71
                      simp only [ti_nle, ti_nlt, ti_le, ti_lt, ti_eq, ti_ne, Classical.not_not, kt_0] at q
                      omega
                    refine m_iload_n C dX11_bells_74 rfl rfl ?_
                    refine m_iload_n C dX11_bells_75 rfl rfl ?_
                    refine m_icmp_lt (tgt := 86) C dX11_bells_76 (by decide) (fun c73 => ?_) (fun c73 => ?_)
                    · have f74 : a3.toInt < a2.toInt := by
                        have q : _ := c73
                        simp only [ti_nle, ti_nlt, ti_le, ti_lt, ti_eq, ti_ne, Classical.not_not] at q
                        omega
                      have b75 : IV a3 (-1) 4 := ⟨by have q1 := b25; have q2 := b22; omega, by have q1 := b25; have q2 := b22; omega⟩
                      refine m_aload_n C dX11_bells_86 rfl rfl ?_
                      refine g_0_9 C q1_195 dX11_bells_87 ?_
                      refine m_aload C dX11_bells_90 rfl ?_
                      refine g_20_0 C (iv_nat b12 (by decide)) q1_173 dX11_bells_92 ?_
                      refine m_iload_n C dX11_bells_95 rfl rfl ?_
                      refine m_callV (n := 2) (ci := 0) (st := []) C (c_X0_findBest l G τ59 (j2 := (a1.toInt.toNat)) (iv_nat b12 (by decide)) (a2) i60 b22) (by decide) (by decide) rfl rfl rfl q3_228 q3_225 q3_226 q3_227 q1_5 (by decide +kernel) rfl (by decide) (by decide) rfl (Nat.le_of_ble_eq_true rfl) dX11_bells_96 ?_
                      rintro _ τ76 ⟨rfl, i77, f78⟩
                      have g81 : Fr MS_X11_bellsQ AS_X11_bellsQ σ τ76 := Fr.call (g64) f78 (by decide)
                      show MW p l e _ s m args below meth c _ 5 G 0 0 99 [some (.ref (G.1 0 0)), some (.int a1), some (.int a2), some (.int a3), some (.ref (G.1 20 (a1.toInt.toNat)))] [] τ76
                      refine m_aload_n C dX11_bells_99 rfl rfl ?_
                      refine m_iload_n C dX11_bells_100 rfl rfl ?_
                      refine m_iconst (v := (-1)) C dX11_bells_101 (by decide) ?_
                      refine m_icmp_ne (tgt := 115) C dX11_bells_102 (by decide) (fun c83 => ?_) (fun c83 => ?_)
                      · have f84 : a3.toInt ≠ -1 := by
                          have q : _ := c83
                          simp only [ti_nle, ti_nlt, ti_le, ti_lt, ti_eq, ti_ne, Classical.not_not, kt_m1] at q
                          omega
                        have b85 : IV a3 0 4 := ⟨by have q1 := b75; have q2 := kc_m1; omega, by have q1 := b75; have q2 := kc_m1; omega⟩
                        refine m_aload_n C dX11_bells_115 rfl rfl ?_
                        refine g_0_9 C q1_195 dX11_bells_116 ?_
                        refine g_16_3 C q1_153 dX11_bells_119 ?_
                        refine m_iload_n C dX11_bells_122 rfl rfl ?_
                        refine al_19 C b85 (by decide) rfl dX11_bells_123 ?_
                        refine m_topi (fun x86 ex86 => ?_)
                        have q87 : (gV τ76 0 0 12).toInt = (gV σ 0 0 12).toInt := congrArg Int32.toInt (show (gV τ76 0 0 12) = (gV σ 0 0 12) from (show gV τ76 0 0 12 = (gV σ 0 0 12) from (f78.1 0 0 (12) (by decide) (by decide)).trans (show gV τ59 0 0 12 = (gV σ 0 0 12) from (f61.1 0 0 (12) (by decide) (by decide)).trans (show gV τ26 0 0 12 = (gV σ 0 0 12) from (f28.1 0 0 (12) (by decide) (by decide)).trans (show gV τ2 0 0 12 = (gV σ 0 0 12) from (f4.1 0 0 (12) (by decide) (by decide)).trans rfl)))))
                        have q88 : (gV τ76 20 (a1.toInt.toNat) 1).toInt = (gV σ 20 (a1.toInt.toNat) 1).toInt := congrArg Int32.toInt (show (gV τ76 20 (a1.toInt.toNat) 1) = (gV σ 20 (a1.toInt.toNat) 1) from (show gV τ76 20 (a1.toInt.toNat) 1 = (gV σ 20 (a1.toInt.toNat) 1) from (f78.1 20 (a1.toInt.toNat) (1) (by decide) (by decide)).trans (show gV τ59 20 (a1.toInt.toNat) 1 = (gV σ 20 (a1.toInt.toNat) 1) from (f61.1 20 (a1.toInt.toNat) (1) (by decide) (by decide)).trans (show gV τ26 20 (a1.toInt.toNat) 1 = (gV σ 20 (a1.toInt.toNat) 1) from (f28.1 20 (a1.toInt.toNat) (1) (by decide) (by decide)).trans (show gV τ2 20 (a1.toInt.toNat) 1 = (gV σ 20 (a1.toInt.toNat) 1) from (f4.1 20 (a1.toInt.toNat) (1) (by decide) (by decide)).trans rfl)))))
                        have q89 : (gV τ76 20 (a1.toInt.toNat) 2).toInt = (gV σ 20 (a1.toInt.toNat) 2).toInt := congrArg Int32.toInt (show (gV τ76 20 (a1.toInt.toNat) 2) = (gV σ 20 (a1.toInt.toNat) 2) from (show gV τ76 20 (a1.toInt.toNat) 2 = (gV σ 20 (a1.toInt.toNat) 2) from (f78.1 20 (a1.toInt.toNat) (2) (by decide) (by decide)).trans (show gV τ59 20 (a1.toInt.toNat) 2 = (gV σ 20 (a1.toInt.toNat) 2) from (f61.1 20 (a1.toInt.toNat) (2) (by decide) (by decide)).trans (show gV τ26 20 (a1.toInt.toNat) 2 = (gV σ 20 (a1.toInt.toNat) 2) from (f28.1 20 (a1.toInt.toNat) (2) (by decide) (by decide)).trans (show gV τ2 20 (a1.toInt.toNat) 2 = (gV σ 20 (a1.toInt.toNat) 2) from (f4.1 20 (a1.toInt.toNat) (2) (by decide) (by decide)).trans rfl)))))
                        refine m_callV (n := 1) (ci := 10) (st := []) C (c_X11_cleanQ l G τ76 (x86) i77 ) (by decide) (by decide) rfl rfl rfl q2_7 q2_4 q2_6 q0_2 q1_1 (by decide +kernel) rfl (by decide) (by decide) rfl (Nat.le_of_ble_eq_true rfl) dX11_bells_124 ?_
                        rintro _ τ90 ⟨x93, rfl, i91, f92, b94, h96⟩
                        have g95 : Fr MS_X11_bellsQ AS_X11_bellsQ σ τ90 := Fr.call (g81) f92 (by decide)
                        have q97 : (gV τ90 20 (a1.toInt.toNat) 1).toInt = (gV σ 20 (a1.toInt.toNat) 1).toInt := congrArg Int32.toInt (show (gV τ90 20 (a1.toInt.toNat) 1) = (gV σ 20 (a1.toInt.toNat) 1) from (show gV τ90 20 (a1.toInt.toNat) 1 = (gV σ 20 (a1.toInt.toNat) 1) from (f92.1 20 (a1.toInt.toNat) (1) (by decide) (by decide)).trans (show gV τ76 20 (a1.toInt.toNat) 1 = (gV σ 20 (a1.toInt.toNat) 1) from (f78.1 20 (a1.toInt.toNat) (1) (by decide) (by decide)).trans (show gV τ59 20 (a1.toInt.toNat) 1 = (gV σ 20 (a1.toInt.toNat) 1) from (f61.1 20 (a1.toInt.toNat) (1) (by decide) (by decide)).trans (show gV τ26 20 (a1.toInt.toNat) 1 = (gV σ 20 (a1.toInt.toNat) 1) from (f28.1 20 (a1.toInt.toNat) (1) (by decide) (by decide)).trans (show gV τ2 20 (a1.toInt.toNat) 1 = (gV σ 20 (a1.toInt.toNat) 1) from (f4.1 20 (a1.toInt.toNat) (1) (by decide) (by decide)).trans rfl))))))
                        have q98 : (gV τ90 20 (a1.toInt.toNat) 2).toInt = (gV σ 20 (a1.toInt.toNat) 2).toInt := congrArg Int32.toInt (show (gV τ90 20 (a1.toInt.toNat) 2) = (gV σ 20 (a1.toInt.toNat) 2) from (show gV τ90 20 (a1.toInt.toNat) 2 = (gV σ 20 (a1.toInt.toNat) 2) from (f92.1 20 (a1.toInt.toNat) (2) (by decide) (by decide)).trans (show gV τ76 20 (a1.toInt.toNat) 2 = (gV σ 20 (a1.toInt.toNat) 2) from (f78.1 20 (a1.toInt.toNat) (2) (by decide) (by decide)).trans (show gV τ59 20 (a1.toInt.toNat) 2 = (gV σ 20 (a1.toInt.toNat) 2) from (f61.1 20 (a1.toInt.toNat) (2) (by decide) (by decide)).trans (show gV τ26 20 (a1.toInt.toNat) 2 = (gV σ 20 (a1.toInt.toNat) 2) from (f28.1 20 (a1.toInt.toNat) (2) (by decide) (by decide)).trans (show gV τ2 20 (a1.toInt.toNat) 2 = (gV σ 20 (a1.toInt.toNat) 2) from (f4.1 20 (a1.toInt.toNat) (2) (by decide) (by decide)).trans rfl))))))
                        show MW p l e _ s m args below meth c _ 5 G 0 0 127 [some (.ref (G.1 0 0)), some (.int a1), some (.int a2), some (.int a3), some (.ref (G.1 20 (a1.toInt.toNat)))] [.int x93] τ90
                        exact m_iret C hr hlk (by decide) (by decide) dX11_bells_127 ⟨_, rfl, i91, g95, b94, (Or.inr (Or.inr (Or.inr (Or.inr (⟨by omega, by omega, by omega, h65_1, by omega⟩)))))⟩
                      · have f99 : a3.toInt = -1 := by
                          have q : _ := c83
                          simp only [ti_nle, ti_nlt, ti_le, ti_lt, ti_eq, ti_ne, Classical.not_not, kt_m1] at q
                          omega
                        have b100 : IV a3 (-1) (-1) := ⟨by have q1 := b75; have q2 := kc_m1; omega, by have q1 := b75; have q2 := kc_m1; omega⟩
                        refine m_aload_n C dX11_bells_105 rfl rfl ?_
                        refine g_0_9 C q1_195 dX11_bells_106 ?_
                        refine g_16_4 C q1_155 dX11_bells_109 ?_
                        refine m_topi (fun x101 ex101 => ?_)
                        refine m_goto (tgt := 124) C dX11_bells_112 (by decide) ?_
                        have q102 : (gV τ76 0 0 12).toInt = (gV σ 0 0 12).toInt := congrArg Int32.toInt (show (gV τ76 0 0 12) = (gV σ 0 0 12) from (show gV τ76 0 0 12 = (gV σ 0 0 12) from (f78.1 0 0 (12) (by decide) (by decide)).trans (show gV τ59 0 0 12 = (gV σ 0 0 12) from (f61.1 0 0 (12) (by decide) (by decide)).trans (show gV τ26 0 0 12 = (gV σ 0 0 12) from (f28.1 0 0 (12) (by decide) (by decide)).trans (show gV τ2 0 0 12 = (gV σ 0 0 12) from (f4.1 0 0 (12) (by decide) (by decide)).trans rfl)))))
                        have q103 : (gV τ76 20 (a1.toInt.toNat) 1).toInt = (gV σ 20 (a1.toInt.toNat) 1).toInt := congrArg Int32.toInt (show (gV τ76 20 (a1.toInt.toNat) 1) = (gV σ 20 (a1.toInt.toNat) 1) from (show gV τ76 20 (a1.toInt.toNat) 1 = (gV σ 20 (a1.toInt.toNat) 1) from (f78.1 20 (a1.toInt.toNat) (1) (by decide) (by decide)).trans (show gV τ59 20 (a1.toInt.toNat) 1 = (gV σ 20 (a1.toInt.toNat) 1) from (f61.1 20 (a1.toInt.toNat) (1) (by decide) (by decide)).trans (show gV τ26 20 (a1.toInt.toNat) 1 = (gV σ 20 (a1.toInt.toNat) 1) from (f28.1 20 (a1.toInt.toNat) (1) (by decide) (by decide)).trans (show gV τ2 20 (a1.toInt.toNat) 1 = (gV σ 20 (a1.toInt.toNat) 1) from (f4.1 20 (a1.toInt.toNat) (1) (by decide) (by decide)).trans rfl)))))
                        have q104 : (gV τ76 20 (a1.toInt.toNat) 2).toInt = (gV σ 20 (a1.toInt.toNat) 2).toInt := congrArg Int32.toInt (show (gV τ76 20 (a1.toInt.toNat) 2) = (gV σ 20 (a1.toInt.toNat) 2) from (show gV τ76 20 (a1.toInt.toNat) 2 = (gV σ 20 (a1.toInt.toNat) 2) from (f78.1 20 (a1.toInt.toNat) (2) (by decide) (by decide)).trans (show gV τ59 20 (a1.toInt.toNat) 2 = (gV σ 20 (a1.toInt.toNat) 2) from (f61.1 20 (a1.toInt.toNat) (2) (by decide) (by decide)).trans (show gV τ26 20 (a1.toInt.toNat) 2 = (gV σ 20 (a1.toInt.toNat) 2) from (f28.1 20 (a1.toInt.toNat) (2) (by decide) (by decide)).trans (show gV τ2 20 (a1.toInt.toNat) 2 = (gV σ 20 (a1.toInt.toNat) 2) from (f4.1 20 (a1.toInt.toNat) (2) (by decide) (by decide)).trans rfl)))))
                        refine m_callV (n := 1) (ci := 10) (st := []) C (c_X11_cleanQ l G τ76 (x101) i77 ) (by decide) (by decide) rfl rfl rfl q2_7 q2_4 q2_6 q0_2 q1_1 (by decide +kernel) rfl (by decide) (by decide) rfl (Nat.le_of_ble_eq_true rfl) dX11_bells_124 ?_
                        rintro _ τ105 ⟨x108, rfl, i106, f107, b109, h111⟩
                        have g110 : Fr MS_X11_bellsQ AS_X11_bellsQ σ τ105 := Fr.call (g81) f107 (by decide)
                        have q112 : (gV τ105 20 (a1.toInt.toNat) 1).toInt = (gV σ 20 (a1.toInt.toNat) 1).toInt := congrArg Int32.toInt (show (gV τ105 20 (a1.toInt.toNat) 1) = (gV σ 20 (a1.toInt.toNat) 1) from (show gV τ105 20 (a1.toInt.toNat) 1 = (gV σ 20 (a1.toInt.toNat) 1) from (f107.1 20 (a1.toInt.toNat) (1) (by decide) (by decide)).trans (show gV τ76 20 (a1.toInt.toNat) 1 = (gV σ 20 (a1.toInt.toNat) 1) from (f78.1 20 (a1.toInt.toNat) (1) (by decide) (by decide)).trans (show gV τ59 20 (a1.toInt.toNat) 1 = (gV σ 20 (a1.toInt.toNat) 1) from (f61.1 20 (a1.toInt.toNat) (1) (by decide) (by decide)).trans (show gV τ26 20 (a1.toInt.toNat) 1 = (gV σ 20 (a1.toInt.toNat) 1) from (f28.1 20 (a1.toInt.toNat) (1) (by decide) (by decide)).trans (show gV τ2 20 (a1.toInt.toNat) 1 = (gV σ 20 (a1.toInt.toNat) 1) from (f4.1 20 (a1.toInt.toNat) (1) (by decide) (by decide)).trans rfl))))))
                        have q113 : (gV τ105 20 (a1.toInt.toNat) 2).toInt = (gV σ 20 (a1.toInt.toNat) 2).toInt := congrArg Int32.toInt (show (gV τ105 20 (a1.toInt.toNat) 2) = (gV σ 20 (a1.toInt.toNat) 2) from (show gV τ105 20 (a1.toInt.toNat) 2 = (gV σ 20 (a1.toInt.toNat) 2) from (f107.1 20 (a1.toInt.toNat) (2) (by decide) (by decide)).trans (show gV τ76 20 (a1.toInt.toNat) 2 = (gV σ 20 (a1.toInt.toNat) 2) from (f78.1 20 (a1.toInt.toNat) (2) (by decide) (by decide)).trans (show gV τ59 20 (a1.toInt.toNat) 2 = (gV σ 20 (a1.toInt.toNat) 2) from (f61.1 20 (a1.toInt.toNat) (2) (by decide) (by decide)).trans (show gV τ26 20 (a1.toInt.toNat) 2 = (gV σ 20 (a1.toInt.toNat) 2) from (f28.1 20 (a1.toInt.toNat) (2) (by decide) (by decide)).trans (show gV τ2 20 (a1.toInt.toNat) 2 = (gV σ 20 (a1.toInt.toNat) 2) from (f4.1 20 (a1.toInt.toNat) (2) (by decide) (by decide)).trans rfl))))))
                        show MW p l e _ s m args below meth c _ 5 G 0 0 127 [some (.ref (G.1 0 0)), some (.int a1), some (.int a2), some (.int a3), some (.ref (G.1 20 (a1.toInt.toNat)))] [.int x108] τ105
                        exact m_iret C hr hlk (by decide) (by decide) dX11_bells_127 ⟨_, rfl, i106, g110, b109, (Or.inr (Or.inr (Or.inr (Or.inr (⟨by omega, by omega, by omega, h65_1, by omega⟩)))))⟩
                    · have f114 : a2.toInt ≤ a3.toInt := by
                        have q : _ := c73
                        simp only [ti_nle, ti_nlt, ti_le, ti_lt, ti_eq, ti_ne, Classical.not_not] at q
                        omega
                      have b115 : IV a3 1 2147483647 := ⟨by have q1 := b22; have q2 := b25; omega, by have q1 := b22; have q2 := b25; omega⟩
                      refine m_aload_n C dX11_bells_79 rfl rfl ?_
                      refine m_ldc (v := (-1000000)) C dX11_bells_80 q3_43 ?_
                      have q116 := kt_m1000000
                      refine m_callV (n := 1) (ci := 10) (st := []) C (c_X11_cleanQ l G τ59 ((-1000000)) i60 ) (by decide) (by decide) rfl rfl rfl q2_7 q2_4 q2_6 q0_2 q1_1 (by decide +kernel) rfl (by decide) (by decide) rfl (Nat.le_of_ble_eq_true rfl) dX11_bells_82 ?_
                      rintro _ τ117 ⟨x120, rfl, i118, f119, b121, h123⟩
                      have g122 : Fr MS_X11_bellsQ AS_X11_bellsQ σ τ117 := Fr.call (g64) f119 (by decide)
                      have q124 : (gV τ117 20 (a1.toInt.toNat) 1).toInt = (gV σ 20 (a1.toInt.toNat) 1).toInt := congrArg Int32.toInt (show (gV τ117 20 (a1.toInt.toNat) 1) = (gV σ 20 (a1.toInt.toNat) 1) from (show gV τ117 20 (a1.toInt.toNat) 1 = (gV σ 20 (a1.toInt.toNat) 1) from (f119.1 20 (a1.toInt.toNat) (1) (by decide) (by decide)).trans (show gV τ59 20 (a1.toInt.toNat) 1 = (gV σ 20 (a1.toInt.toNat) 1) from (f61.1 20 (a1.toInt.toNat) (1) (by decide) (by decide)).trans (show gV τ26 20 (a1.toInt.toNat) 1 = (gV σ 20 (a1.toInt.toNat) 1) from (f28.1 20 (a1.toInt.toNat) (1) (by decide) (by decide)).trans (show gV τ2 20 (a1.toInt.toNat) 1 = (gV σ 20 (a1.toInt.toNat) 1) from (f4.1 20 (a1.toInt.toNat) (1) (by decide) (by decide)).trans rfl)))))
                      have q125 : (gV τ117 20 (a1.toInt.toNat) 2).toInt = (gV σ 20 (a1.toInt.toNat) 2).toInt := congrArg Int32.toInt (show (gV τ117 20 (a1.toInt.toNat) 2) = (gV σ 20 (a1.toInt.toNat) 2) from (show gV τ117 20 (a1.toInt.toNat) 2 = (gV σ 20 (a1.toInt.toNat) 2) from (f119.1 20 (a1.toInt.toNat) (2) (by decide) (by decide)).trans (show gV τ59 20 (a1.toInt.toNat) 2 = (gV σ 20 (a1.toInt.toNat) 2) from (f61.1 20 (a1.toInt.toNat) (2) (by decide) (by decide)).trans (show gV τ26 20 (a1.toInt.toNat) 2 = (gV σ 20 (a1.toInt.toNat) 2) from (f28.1 20 (a1.toInt.toNat) (2) (by decide) (by decide)).trans (show gV τ2 20 (a1.toInt.toNat) 2 = (gV σ 20 (a1.toInt.toNat) 2) from (f4.1 20 (a1.toInt.toNat) (2) (by decide) (by decide)).trans rfl)))))
                      have q126 := kt_m1000000
                      show MW p l e _ s m args below meth c _ 5 G 0 0 85 [some (.ref (G.1 0 0)), some (.int a1), some (.int a2), some (.int a3), some (.ref (G.1 20 (a1.toInt.toNat)))] [.int x120] τ117
                      exact m_iret C hr hlk (by decide) (by decide) dX11_bells_85 ⟨_, rfl, i118, g122, b121, (Or.inr (Or.inr (Or.inr (Or.inr (⟨by omega, by omega, by omega, h65_1, by omega⟩)))))⟩
                  · exfalso
                    have q : _ := c71
                    simp only [ti_nle, ti_nlt, ti_le, ti_lt, ti_eq, ti_ne, Classical.not_not, kt_0] at q
                    have q1 := b69; have q2 := kc_0; omega
                · skip
                  have b128 : IV x62 0 0 := ⟨by omega, by omega⟩
                  have q129 : AlI τ26 (a1.toInt.toNat) a2.toInt (1 : Int32).toInt (20 : Int32).toInt ↔ AlI σ (a1.toInt.toNat) a2.toInt 1 20 := by rw [kt_1, kt_20]; exact AlI.eq (fun i => (g31).1 21 _ i (by simp) (by decide))
                  rw [q129] at h65_1
                  show MW p l e _ s m args below meth c _ 5 G 0 0 68 [some (.ref (G.1 0 0)), some (.int a1), some (.int a2), some (.int a3), some (.ref (G.1 20 (a1.toInt.toNat)))] [.int x62] τ59
                  refine m_if_ne (tgt := 74) C dX11_bells_68 (by decide) (fun c130 => ?_) (fun c130 => ?_)
                  · exfalso
                    have q : _ := c130
                    simp only [ti_nle, ti_nlt, ti_le, ti_lt, ti_eq, ti_ne, Classical.not_not, kt_0] at q
                    have q1 := b128; have q2 := kc_0; omega
                  · have f132 : x62.toInt = 0 := by
                      have q : _ := c130
                      simp only [ti_nle, ti_nlt, ti_le, ti_lt, ti_eq, ti_ne, Classical.not_not, kt_0] at q
                      omega
                    refine m_ldc (v := (-1000001)) C dX11_bells_71 q1_234 ?_
                    exact m_iret C hr hlk (by decide) (by decide) dX11_bells_73 ⟨_, rfl, i60, g64, (iv_wk kc_m1000001 (by decide)), (Or.inr (Or.inr (Or.inr (Or.inl ⟨by have qk := kt_m1000001; omega, by have qk := kt_m1000001; omega, by have qk := kt_m1000001; omega, h65_1, by have qk := kt_m1000001; omega⟩))))⟩
              · have f133 : (gV σ 20 (a1.toInt.toNat) 2).toInt < a2.toInt := by
                  have q : _ := c54
                  simp only [ti_nle, ti_nlt, ti_le, ti_lt, ti_eq, ti_ne, Classical.not_not] at q
                  omega
                have b134 : IV (gV σ 20 (a1.toInt.toNat) 2) 0 4 := ⟨by have q1 := u1; have q2 := b22; omega, by have q1 := u1; have q2 := b22; omega⟩
                refine m_aload_n C dX11_bells_53 rfl rfl ?_
                refine m_iconst (v := 2) C dX11_bells_54 (by decide) ?_
                have q135 := kt_2
                refine m_callV (n := 1) (ci := 10) (st := []) C (c_X11_foundQ l G τ26 (2) i27 (iv_wk kc_2 (by decide))) (by decide) (by decide) rfl rfl rfl q1_238 q1_235 q1_237 q0_1 q1_1 (by decide +kernel) rfl (by decide) (by decide) rfl (Nat.le_of_ble_eq_true rfl) dX11_bells_55 ?_
                rintro _ τ136 ⟨x139, rfl, i137, f138, b140, h142⟩
                have g141 : Fr MS_X11_bellsQ AS_X11_bellsQ σ τ136 := Fr.call (g31) f138 (by decide)
                have q143 : (gV τ136 20 (a1.toInt.toNat) 1).toInt = (gV σ 20 (a1.toInt.toNat) 1).toInt := congrArg Int32.toInt (show (gV τ136 20 (a1.toInt.toNat) 1) = (gV σ 20 (a1.toInt.toNat) 1) from (show gV τ136 20 (a1.toInt.toNat) 1 = (gV σ 20 (a1.toInt.toNat) 1) from (f138.1 20 (a1.toInt.toNat) (1) (by decide) (by decide)).trans (show gV τ26 20 (a1.toInt.toNat) 1 = (gV σ 20 (a1.toInt.toNat) 1) from (f28.1 20 (a1.toInt.toNat) (1) (by decide) (by decide)).trans (show gV τ2 20 (a1.toInt.toNat) 1 = (gV σ 20 (a1.toInt.toNat) 1) from (f4.1 20 (a1.toInt.toNat) (1) (by decide) (by decide)).trans rfl))))
                have q144 : (gV τ136 20 (a1.toInt.toNat) 2).toInt = (gV σ 20 (a1.toInt.toNat) 2).toInt := congrArg Int32.toInt (show (gV τ136 20 (a1.toInt.toNat) 2) = (gV σ 20 (a1.toInt.toNat) 2) from (show gV τ136 20 (a1.toInt.toNat) 2 = (gV σ 20 (a1.toInt.toNat) 2) from (f138.1 20 (a1.toInt.toNat) (2) (by decide) (by decide)).trans (show gV τ26 20 (a1.toInt.toNat) 2 = (gV σ 20 (a1.toInt.toNat) 2) from (f28.1 20 (a1.toInt.toNat) (2) (by decide) (by decide)).trans (show gV τ2 20 (a1.toInt.toNat) 2 = (gV σ 20 (a1.toInt.toNat) 2) from (f4.1 20 (a1.toInt.toNat) (2) (by decide) (by decide)).trans rfl))))
                have q145 := kt_2
                show MW p l e _ s m args below meth c _ 5 G 0 0 58 [some (.ref (G.1 0 0)), some (.int a1), some (.int a2), some (.int a3), some (.ref (G.1 20 (a1.toInt.toNat)))] [.int x139] τ136
                exact m_iret C hr hlk (by decide) (by decide) dX11_bells_58 ⟨_, rfl, i137, g141, (iv_wk b140 (by decide)), (Or.inr (Or.inr (Or.inl ⟨by omega, by omega, by omega, by omega⟩)))⟩
            · exfalso
              have q : _ := c52
              simp only [ti_nle, ti_nlt, ti_le, ti_lt, ti_eq, ti_ne, Classical.not_not, kt_0] at q
              have q1 := b51; have q2 := kc_0; omega
        · have f147 : a3.toInt < -1 := by
            have q : _ := c23
            simp only [ti_nle, ti_nlt, ti_le, ti_lt, ti_eq, ti_ne, Classical.not_not, kt_m1] at q
            omega
          have b148 : IV a3 (-2147483648) (-2) := ⟨by have q1 := (iv_any a3); have q2 := kc_m1; omega, by have q1 := (iv_any a3); have q2 := kc_m1; omega⟩
          refine m_ldc (v := (-1000001)) C dX11_bells_27 q1_234 ?_
          exact m_iret C hr hlk (by decide) (by decide) dX11_bells_29 ⟨_, rfl, i3, g7, (iv_wk kc_m1000001 (by decide)), (Or.inl ⟨by have qk := kt_m1000001; omega, by have qk := kt_m1000001; omega⟩)⟩

abbrev MS_X12_bells_1Q : List (Nat × Nat) := [(22, 8)]
abbrev AS_X12_bells_1Q : List Nat := []
set_option maxHeartbeats 4000000 in
set_option maxRecDepth 100000 in
theorem c_X12_bells_1Q (l : Launch) (G : Gt) (σ : Sg) (a1 : Int32) (a3 : Int32) (hI : Inv σ) : Mc l G yX12_bells cX12_bells 14 (some .int) 2 60 0 0 [.ref (G.1 22 0), .int a1, .int 1, .int a3] σ (PI fun r τ => Inv τ ∧ Fr MS_X12_bells_1Q AS_X12_bells_1Q σ τ ∧ IV r (-2147483648) 2147483647 ∧ BLM σ τ a1 a3 1) := by
  refine Mc.of (L0 := [some (.ref (G.1 22 0)), some (.int a1), some (.int 1), some (.int a3), none, none, none, none, none, none, none, none, none, none]) (by decide) (Nat.le_of_ble_eq_true rfl) rfl ?_
  intro p e s m args below meth c C hr hlk
  have C : Cx p s m args c cX12_bells 14 "LeanTowerModel" := C
  have k0 : (0 : Int32).toInt = 0 := by decide
  have k1 : (1 : Int32).toInt = 1 := by decide
  have J138 : ∀ (n : Nat) (τ : Sg) (y5 : Int32) (y6 : Int32) (y7 : Int32), Inv τ → Fr MS_X12_bells_1Q AS_X12_bells_1Q σ τ → IV a1 0 7 → IV a3 (-1) 2147483647 → IV y5 (-1) 0 → IV y6 (-2147483648) 2147483647 → IV y7 0 1 → (((0 ≤ a1.toInt ∧ a1.toInt ≤ 7) ∧ 1 ≤ 1 ∧ 1 ≤ 5 ∧ -1 ≤ a3.toInt ∧ 0 ≤ (gV σ 26 0 (a1.toInt.toNat)).toInt ∧ 1 ≤ (gV σ 27 0 (a1.toInt.toNat)).toInt)) → ((gV τ 22 0 8).toInt = 0) → (AlJ σ (a1.toInt.toNat) 1 1 20) → (1 - y7.toInt).toNat < n → MW p l e { frames := 2, cells := 0, slots := 0, locals := 60 } s m args below meth c (MQ below (QP G (PI fun r τ => Inv τ ∧ Fr MS_X12_bells_1Q AS_X12_bells_1Q σ τ ∧ IV r (-2147483648) 2147483647 ∧ BLM σ τ a1 a3 1)) args s 0 0 (aG G)) 14 G 0 0 138 [some (.ref (G.1 22 0)), some (.int a1), some (.int 1), some (.int a3), some (.int 1), some (.int y5), some (.int y6), some (.int y7), none, none, none, none, none, none] [] τ := by
    intro n
    induction n with
    | zero => intro τ y5 y6 y7 iτ fτ b_a1 b_a3 b_y5 b_y6 b_y7 n1 n2 nL hm; exact absurd hm (Nat.not_lt_zero _)
    | succ n ih138 =>
      intro τ y5 y6 y7 iτ fτ b_a1 b_a3 b_y5 b_y6 b_y7 n1 n2 nL hm138
      have u3 : IV (gV τ 27 0 (a1.toInt.toNat)) 0 40 := iτ.1 27 0 (a1.toInt.toNat)
      refine m_iload C dX12_bells_138 rfl ?_
      refine m_iload C dX12_bells_140 rfl ?_
      refine m_icmp_ge (tgt := 285) C dX12_bells_142 (by decide) (fun c4 => ?_) (fun c4 => ?_)
      · have f5 : 1 ≤ y7.toInt := by
          have q : _ := c4
          simp only [ti_nle, ti_nlt, ti_le, ti_lt, ti_eq, ti_ne, Classical.not_not, kt_1] at q
          omega
        have b6 : IV y7 1 1 := ⟨by have q1 := kc_1; have q2 := b_y7; omega, by have q1 := kc_1; have q2 := b_y7; omega⟩
        refine m_iload_n C dX12_bells_285 rfl rfl ?_
        refine m_if_ge (tgt := 292) C dX12_bells_286 (by decide) (fun c7 => ?_) (fun c7 => ?_)
        · have f8 : 0 ≤ a3.toInt := by
            have q : _ := c7
            simp only [ti_nle, ti_nlt, ti_le, ti_lt, ti_eq, ti_ne, Classical.not_not, kt_0] at q
            omega
          have b9 : IV a3 0 2147483647 := ⟨by have q1 := kc_0; have q2 := b_a3; omega, by have q1 := kc_0; have q2 := b_a3; omega⟩
          refine m_iload C dX12_bells_292 rfl ?_
          refine m_istore (L1 := [some (.ref (G.1 22 0)), some (.int a1), some (.int 1), some (.int a3), some (.int 1), some (.int y5), some (.int y6), some (.int 1), none, none, none, none, none, none]) C dX12_bells_294 (by decide) rfl rfl ?_
          refine m_iconst (v := 0) C dX12_bells_296 (by decide) ?_
          refine m_istore (L1 := [some (.ref (G.1 22 0)), some (.int a1), some (.int 1), some (.int a3), some (.int 1), some (.int y5), some (.int y6), some (.int 1), some (.int 0), none, none, none, none, none]) C dX12_bells_297 (by decide) rfl rfl ?_
          refine m_iload C dX12_bells_299 rfl ?_
          refine m_iload_n C dX12_bells_301 rfl rfl ?_
          refine m_icmp_gt (tgt := 323) C dX12_bells_302 (by decide) (fun c10 => ?_) (fun c10 => ?_)
          · exfalso
            have q : _ := c10
            simp only [ti_nle, ti_nlt, ti_le, ti_lt, ti_eq, ti_ne, Classical.not_not, kt_0] at q
            have q1 := kc_0; have q2 := b9; omega
          · have f12 : 0 ≤ a3.toInt := by
              have q : _ := c10
              simp only [ti_nle, ti_nlt, ti_le, ti_lt, ti_eq, ti_ne, Classical.not_not, kt_0] at q
              omega
            refine m_iload C dX12_bells_305 rfl ?_
            refine m_iload_n C dX12_bells_307 rfl rfl ?_
            refine m_icmp_ge (tgt := 323) C dX12_bells_308 (by decide) (fun c13 => ?_) (fun c13 => ?_)
            · first | exact absurd c13 (by decide) | exact absurd (by decide) c13
            · have f15 : 0 < 1 := by
                have q : _ := c13
                simp only [ti_nle, ti_nlt, ti_le, ti_lt, ti_eq, ti_ne, Classical.not_not, kt_0, kt_1] at q
                omega
              refine m_iload C dX12_bells_311 rfl ?_
              refine m_iload_n C dX12_bells_313 rfl rfl ?_
              refine m_idiv C dX12_bells_314 (iv_nz kc_1 (by decide)) ?_
              refine m_topi (fun x16 ex16 => ?_)
              have b17 : IV x16 1 1 := by rw [ex16]; decide
              have tx16 : x16.toInt = 1 := by rw [ex16]; decide
              obtain rfl : x16 = 1 := by rw [ex16]; decide
              refine m_istore (L1 := [some (.ref (G.1 22 0)), some (.int a1), some (.int 1), some (.int a3), some (.int 1), some (.int y5), some (.int y6), some (.int 1), some (.int 0), none, none, none, none, none]) C dX12_bells_315 (by decide) rfl rfl ?_
              obtain ⟨x18, ex18⟩ : ∃ y : Int32, y = 0 + 1 := ⟨_, rfl⟩
              have b19 : IV x18 1 1 := by rw [ex18]; decide
              have tx18 : x18.toInt = 1 := by rw [ex18]; decide
              obtain rfl : x18 = 1 := by rw [ex18]; decide
              refine m_iinc (v := 1) (L1 := [some (.ref (G.1 22 0)), some (.int a1), some (.int 1), some (.int a3), some (.int 1), some (.int y5), some (.int y6), some (.int 1), some (.int 1), none, none, none, none, none]) C dX12_bells_317 rfl (by decide) (by decide) rfl rfl ?_
              refine m_goto (tgt := 299) C dX12_bells_320 (by decide) ?_
              refine m_iload C dX12_bells_299 rfl ?_
              refine m_iload_n C dX12_bells_301 rfl rfl ?_
              refine m_icmp_gt (tgt := 323) C dX12_bells_302 (by decide) (fun c20 => ?_) (fun c20 => ?_)
              · have f21 : a3.toInt < 1 := by
                  have q : _ := c20
                  simp only [ti_nle, ti_nlt, ti_le, ti_lt, ti_eq, ti_ne, Classical.not_not, kt_1] at q
                  omega
                have b22 : IV a3 0 0 := ⟨by have q1 := b9; have q2 := kc_1; omega, by have q1 := b9; have q2 := kc_1; omega⟩
                refine m_iload_n C dX12_bells_323 rfl rfl ?_
                refine m_iload_n C dX12_bells_324 rfl rfl ?_
                refine m_icmp_ge (tgt := 338) C dX12_bells_325 (by decide) (fun c23 => ?_) (fun c23 => ?_)
                · exfalso
                  have q : _ := c23
                  simp only [ti_nle, ti_nlt, ti_le, ti_lt, ti_eq, ti_ne, Classical.not_not, kt_1] at q
                  have q1 := b22; have q2 := kc_1; omega
                · have f25 : a3.toInt < 1 := by
                    have q : _ := c23
                    simp only [ti_nle, ti_nlt, ti_le, ti_lt, ti_eq, ti_ne, Classical.not_not, kt_1] at q
                    omega
                  refine m_iload C dX12_bells_328 rfl ?_
                  refine m_iload C dX12_bells_330 rfl ?_
                  refine m_idiv C dX12_bells_332 (iv_nz kc_1 (by decide)) ?_
                  refine m_topi (fun x26 ex26 => ?_)
                  refine m_iload_n C dX12_bells_333 rfl rfl ?_
                  refine m_irem C dX12_bells_334 (iv_nz kc_1 (by decide)) ?_
                  refine m_topi (fun x27 ex27 => ?_)
                  refine m_goto (tgt := 340) C dX12_bells_335 (by decide) ?_
                  exact m_iret C hr hlk (by decide) (by decide) dX12_bells_340 ⟨_, rfl, iτ, fτ, (iv_any x27), (Or.inr (Or.inr (Or.inr (Or.inr (⟨by omega, by omega, by omega, nL, by omega⟩)))))⟩
              · have f28 : 1 ≤ a3.toInt := by
                  have q : _ := c20
                  simp only [ti_nle, ti_nlt, ti_le, ti_lt, ti_eq, ti_ne, Classical.not_not, kt_1] at q
                  omega
                have b29 : IV a3 1 2147483647 := ⟨by have q1 := kc_1; have q2 := b9; omega, by have q1 := kc_1; have q2 := b9; omega⟩
                refine m_iload C dX12_bells_305 rfl ?_
                refine m_iload_n C dX12_bells_307 rfl rfl ?_
                refine m_icmp_ge (tgt := 323) C dX12_bells_308 (by decide) (fun c30 => ?_) (fun c30 => ?_)
                · have f31 : 1 ≤ 1 := by
                    have q : _ := c30
                    simp only [ti_nle, ti_nlt, ti_le, ti_lt, ti_eq, ti_ne, Classical.not_not, kt_1, kt_1] at q
                    omega
                  refine m_iload_n C dX12_bells_323 rfl rfl ?_
                  refine m_iload_n C dX12_bells_324 rfl rfl ?_
                  refine m_icmp_ge (tgt := 338) C dX12_bells_325 (by decide) (fun c32 => ?_) (fun c32 => ?_)
                  · have f33 : 1 ≤ a3.toInt := by
                      have q : _ := c32
                      simp only [ti_nle, ti_nlt, ti_le, ti_lt, ti_eq, ti_ne, Classical.not_not, kt_1] at q
                      omega
                    refine m_ldc (v := (-1000000)) C dX12_bells_338 q5_70 ?_
                    exact m_iret C hr hlk (by decide) (by decide) dX12_bells_340 ⟨_, rfl, iτ, fτ, (iv_wk kc_m1000000 (by decide)), (Or.inr (Or.inr (Or.inr (Or.inr (⟨by have qk := kt_m1000000; omega, by have qk := kt_m1000000; omega, by have qk := kt_m1000000; omega, nL, by have qk := kt_m1000000; omega⟩)))))⟩
                  · exfalso
                    have q : _ := c32
                    simp only [ti_nle, ti_nlt, ti_le, ti_lt, ti_eq, ti_ne, Classical.not_not, kt_1] at q
                    have q1 := b29; have q2 := kc_1; omega
                · first | exact absurd c30 (by decide) | exact absurd (by decide) c30
        · have f36 : a3.toInt < 0 := by
            have q : _ := c7
            simp only [ti_nle, ti_nlt, ti_le, ti_lt, ti_eq, ti_ne, Classical.not_not, kt_0] at q
            omega
          have b37 : IV a3 (-1) (-1) := ⟨by have q1 := b_a3; have q2 := kc_0; omega, by have q1 := b_a3; have q2 := kc_0; omega⟩
          refine m_iload C dX12_bells_289 rfl ?_
          exact m_iret C hr hlk (by decide) (by decide) dX12_bells_291 ⟨_, rfl, iτ, fτ, b_y6, (Or.inr (Or.inr (Or.inr (Or.inr (⟨by omega, by omega, by omega, nL, by omega⟩)))))⟩
      · have f38 : y7.toInt < 1 := by
          have q : _ := c4
          simp only [ti_nle, ti_nlt, ti_le, ti_lt, ti_eq, ti_ne, Classical.not_not, kt_1] at q
          omega
        have b39 : IV y7 0 0 := ⟨by have q1 := b_y7; have q2 := kc_1; omega, by have q1 := b_y7; have q2 := kc_1; omega⟩
        refine m_iconst (v := 0) C dX12_bells_145 (by decide) ?_
        refine m_istore (L1 := [some (.ref (G.1 22 0)), some (.int a1), some (.int 1), some (.int a3), some (.int 1), some (.int y5), some (.int y6), some (.int y7), some (.int 0), none, none, none, none, none]) C dX12_bells_146 (by decide) rfl rfl ?_
        refine m_iload C dX12_bells_148 rfl ?_
        refine m_istore (L1 := [some (.ref (G.1 22 0)), some (.int a1), some (.int 1), some (.int a3), some (.int 1), some (.int y5), some (.int y6), some (.int y7), some (.int 0), some (.int 1), none, none, none, none]) C dX12_bells_150 (by decide) rfl rfl ?_
        refine m_iconst (v := 0) C dX12_bells_152 (by decide) ?_
        refine m_istore (L1 := [some (.ref (G.1 22 0)), some (.int a1), some (.int 1), some (.int a3), some (.int 1), some (.int y5), some (.int y6), some (.int y7), some (.int 0), some (.int 1), some (.int 0), none, none, none]) C dX12_bells_153 (by decide) rfl rfl ?_
        refine m_iconst (v := 0) C dX12_bells_155 (by decide) ?_
        refine m_istore (L1 := [some (.ref (G.1 22 0)), some (.int a1), some (.int 1), some (.int a3), some (.int 1), some (.int y5), some (.int y6), some (.int y7), some (.int 0), some (.int 1), some (.int 0), some (.int 0), none, none]) C dX12_bells_156 (by decide) rfl rfl ?_
        refine m_iconst (v := 0) C dX12_bells_158 (by decide) ?_
        refine m_istore (L1 := [some (.ref (G.1 22 0)), some (.int a1), some (.int 1), some (.int a3), some (.int 1), some (.int y5), some (.int y6), some (.int y7), some (.int 0), some (.int 1), some (.int 0), some (.int 0), some (.int 0), none]) C dX12_bells_159 (by decide) rfl rfl ?_
        refine m_iload C dX12_bells_161 rfl ?_
        refine m_iload_n C dX12_bells_163 rfl rfl ?_
        refine m_icmp_ge (tgt := 249) C dX12_bells_164 (by decide) (fun c40 => ?_) (fun c40 => ?_)
        · first | exact absurd c40 (by decide) | exact absurd (by decide) c40
        · have f42 : 0 < 1 := by
            have q : _ := c40
            simp only [ti_nle, ti_nlt, ti_le, ti_lt, ti_eq, ti_ne, Classical.not_not, kt_0, kt_1] at q
            omega
          refine m_iload C dX12_bells_167 rfl ?_
          refine m_iload_n C dX12_bells_169 rfl rfl ?_
          refine m_idiv C dX12_bells_170 (iv_nz kc_1 (by decide)) ?_
          refine m_topi (fun x43 ex43 => ?_)
          have b44 : IV x43 1 1 := by rw [ex43]; decide
          have tx43 : x43.toInt = 1 := by rw [ex43]; decide
          obtain rfl : x43 = 1 := by rw [ex43]; decide
          refine m_istore (L1 := [some (.ref (G.1 22 0)), some (.int a1), some (.int 1), some (.int a3), some (.int 1), some (.int y5), some (.int y6), some (.int y7), some (.int 0), some (.int 1), some (.int 0), some (.int 0), some (.int 0), none]) C dX12_bells_171 (by decide) rfl rfl ?_
          refine m_iload C dX12_bells_173 rfl ?_
          refine m_iload C dX12_bells_175 rfl ?_
          refine m_idiv C dX12_bells_177 (iv_nz kc_1 (by decide)) ?_
          refine m_topi (fun x45 ex45 => ?_)
          have b46 : IV x45 0 0 := by rw [ex45]; exact iv_div b39 kc_1 (by decide)
          refine m_iload_n C dX12_bells_178 rfl rfl ?_
          refine m_irem C dX12_bells_179 (iv_nz kc_1 (by decide)) ?_
          refine m_topi (fun x47 ex47 => ?_)
          have b48 : IV x47 0 0 := by rw [ex47]; exact iv_rem b46 kc_1 (by decide)
          refine m_istore (L1 := [some (.ref (G.1 22 0)), some (.int a1), some (.int 1), some (.int a3), some (.int 1), some (.int y5), some (.int y6), some (.int y7), some (.int 0), some (.int 1), some (.int 0), some (.int 0), some (.int 0), some (.int x47)]) C dX12_bells_180 (by decide) rfl rfl ?_
          refine m_iload C dX12_bells_182 rfl ?_
          refine m_iconst (v := 1) C dX12_bells_184 (by decide) ?_
          refine m_iload C dX12_bells_185 rfl ?_
          refine m_ishl C dX12_bells_187 ?_
          refine m_topi (fun x49 ex49 => ?_)
          have b50 : IV x49 1 1 := by rw [ex49]; exact iv_shl1 b48 (by decide)
          refine m_ior C dX12_bells_188 ?_
          refine m_topi (fun x51 ex51 => ?_)
          have b52 : IV x51 0 1 := by rw [ex51]; exact iv_or 1 kc_0 b50 (by decide)
          refine m_istore (L1 := [some (.ref (G.1 22 0)), some (.int a1), some (.int 1), some (.int a3), some (.int 1), some (.int y5), some (.int y6), some (.int y7), some (.int x51), some (.int 1), some (.int 0), some (.int 0), some (.int 0), some (.int x47)]) C dX12_bells_189 (by decide) rfl rfl ?_
          refine m_iload C dX12_bells_191 rfl ?_
          refine m_iload C dX12_bells_193 rfl ?_
          refine m_iconst (v := 2) C dX12_bells_195 (by decide) ?_
          refine m_irem C dX12_bells_196 (iv_nz kc_2 (by decide)) ?_
          refine m_topi (fun x53 ex53 => ?_)
          have b54 : IV x53 0 0 := by rw [ex53]; decide
          have tx53 : x53.toInt = 0 := by rw [ex53]; decide
          obtain rfl : x53 = 0 := by rw [ex53]; decide
          refine m_if_ne (tgt := 215) C dX12_bells_197 (by decide) (fun c55 => ?_) (fun c55 => ?_)
          · first | exact absurd c55 (by decide) | exact absurd (by decide) c55
          · have f57 : 0 = 0 := by
              have q : _ := c55
              simp only [ti_nle, ti_nlt, ti_le, ti_lt, ti_eq, ti_ne, Classical.not_not, kt_0, kt_0] at q
              omega
            refine m_aload_n C dX12_bells_200 rfl rfl ?_
            refine g_22_2 C q4_118 dX12_bells_201 ?_
            refine m_bipush (v := 40) C dX12_bells_204 (by decide) ?_
            refine m_iload_n C dX12_bells_206 rfl rfl ?_
            refine m_imul C dX12_bells_207 ?_
            refine m_topi (fun x58 ex58 => ?_)
            have tx58 : x58.toInt = 40 * a1.toInt := by rw [ex58, ti_mulv kc_40 b_a1 (by decide), kt_40]
            have b59 : IV x58 0 280 := by rw [ex58]; exact iv_mul kc_40 b_a1 (by decide)
            refine m_iload C dX12_bells_208 rfl ?_
            refine m_iadd C dX12_bells_210 ?_
            refine m_topi (fun x60 ex60 => ?_)
            have tx60 : x60.toInt = x58.toInt + x47.toInt := by rw [ex60, ti_addv b59 b48 (by decide)]
            have b61 : IV x60 0 280 := by rw [ex60]; exact iv_add b59 b48 (by decide)
            refine al_25 C b61 (by decide) rfl dX12_bells_211 ?_
            refine m_topi (fun x62 ex62 => ?_)
            refine m_goto (tgt := 228) C dX12_bells_212 (by decide) ?_
            refine m_iadd C dX12_bells_228 ?_
            refine m_topi (fun x63 ex63 => ?_)
            have tx63 : x63.toInt = 0 + x62.toInt := by rw [ex63, ti_addv kc_0 (iv_any x62) (by decide), kt_0]
            have b64 : IV x63 (-2147483648) 2147483647 := by rw [ex63]; exact iv_add kc_0 (iv_any x62) (by decide)
            refine m_istore (L1 := [some (.ref (G.1 22 0)), some (.int a1), some (.int 1), some (.int a3), some (.int 1), some (.int y5), some (.int y6), some (.int y7), some (.int x51), some (.int 1), some (.int x63), some (.int 0), some (.int 0), some (.int x47)]) C dX12_bells_229 (by decide) rfl rfl ?_
            refine m_iload C dX12_bells_231 rfl ?_
            refine m_iload C dX12_bells_233 rfl ?_
            refine m_callS (n := 1) (st := [.int 0]) C (c_X12_sizeOf l G τ (x63) iτ ) q5_96 q5_94 q5_95 q1_7 (by decide +kernel) rfl (by decide) (by decide) rfl (Nat.le_of_ble_eq_true rfl) dX12_bells_235 ?_
            rintro _ τ65 ⟨x68, rfl, i66, f67, b69⟩
            have g70 : Fr MS_X12_bells_1Q AS_X12_bells_1Q σ τ65 := Fr.call (fτ) f67 (by decide)
            show MW p l e _ s m args below meth c _ 14 G 0 0 238 [some (.ref (G.1 22 0)), some (.int a1), some (.int 1), some (.int a3), some (.int 1), some (.int y5), some (.int y6), some (.int y7), some (.int x51), some (.int 1), some (.int x63), some (.int 0), some (.int 0), some (.int x47)] [.int x68, .int 0] τ65
            refine m_callS (n := 2) (st := []) C (c_X12_greater l G τ65 (0) (x68) i66 ) q5_99 q5_97 q5_98 q1_7 (by decide +kernel) rfl (by decide) (by decide) rfl (Nat.le_of_ble_eq_true rfl) dX12_bells_238 ?_
            rintro _ τ72 ⟨x75, rfl, i73, f74, b76⟩
            have g77 : Fr MS_X12_bells_1Q AS_X12_bells_1Q σ τ72 := Fr.call (g70) f74 (by decide)
            show MW p l e _ s m args below meth c _ 14 G 0 0 241 [some (.ref (G.1 22 0)), some (.int a1), some (.int 1), some (.int a3), some (.int 1), some (.int y5), some (.int y6), some (.int y7), some (.int x51), some (.int 1), some (.int x63), some (.int 0), some (.int 0), some (.int x47)] [.int x75] τ72
            refine m_istore (L1 := [some (.ref (G.1 22 0)), some (.int a1), some (.int 1), some (.int a3), some (.int 1), some (.int y5), some (.int y6), some (.int y7), some (.int x51), some (.int 1), some (.int x63), some (.int x75), some (.int 0), some (.int x47)]) C dX12_bells_241 (by decide) rfl rfl ?_
            obtain ⟨x79, ex79⟩ : ∃ y : Int32, y = 0 + 1 := ⟨_, rfl⟩
            have b80 : IV x79 1 1 := by rw [ex79]; decide
            have tx79 : x79.toInt = 1 := by rw [ex79]; decide
            obtain rfl : x79 = 1 := by rw [ex79]; decide
            refine m_iinc (v := 1) (L1 := [some (.ref (G.1 22 0)), some (.int a1), some (.int 1), some (.int a3), some (.int 1), some (.int y5), some (.int y6), some (.int y7), some (.int x51), some (.int 1), some (.int x63), some (.int x75), some (.int 1), some (.int x47)]) C dX12_bells_243 rfl (by decide) (by decide) rfl rfl ?_
            refine m_goto (tgt := 161) C dX12_bells_246 (by decide) ?_
            refine m_iload C dX12_bells_161 rfl ?_
            refine m_iload_n C dX12_bells_163 rfl rfl ?_
            refine m_icmp_ge (tgt := 249) C dX12_bells_164 (by decide) (fun c81 => ?_) (fun c81 => ?_)
            · have f82 : 1 ≤ 1 := by
                have q : _ := c81
                simp only [ti_nle, ti_nlt, ti_le, ti_lt, ti_eq, ti_ne, Classical.not_not, kt_1, kt_1] at q
                omega
              refine m_iload C dX12_bells_249 rfl ?_
              refine m_iconst (v := 1) C dX12_bells_251 (by decide) ?_
              refine m_iload_n C dX12_bells_252 rfl rfl ?_
              refine m_ishl C dX12_bells_253 ?_
              refine m_topi (fun x83 ex83 => ?_)
              have b84 : IV x83 2 2 := by rw [ex83]; decide
              have tx83 : x83.toInt = 2 := by rw [ex83]; decide
              obtain rfl : x83 = 2 := by rw [ex83]; decide
              refine m_iconst (v := 1) C dX12_bells_254 (by decide) ?_
              refine m_isub C dX12_bells_255 ?_
              refine m_topi (fun x85 ex85 => ?_)
              have b86 : IV x85 1 1 := by rw [ex85]; decide
              have tx85 : x85.toInt = 1 := by rw [ex85]; decide
              obtain rfl : x85 = 1 := by rw [ex85]; decide
              refine m_icmp_ne (tgt := 279) C dX12_bells_256 (by decide) (fun c87 => ?_) (fun c87 => ?_)
              · have f88 : x51.toInt ≠ 1 := by
                  have q : _ := c87
                  simp only [ti_nle, ti_nlt, ti_le, ti_lt, ti_eq, ti_ne, Classical.not_not, kt_1] at q
                  omega
                have b89 : IV x51 0 0 := ⟨by have q1 := b52; have q2 := kc_1; omega, by have q1 := b52; have q2 := kc_1; omega⟩
                obtain ⟨x90, ex90⟩ : ∃ y : Int32, y = y7 + 1 := ⟨_, rfl⟩
                have tx90 : x90.toInt = y7.toInt + 1 := by rw [ex90, ti_addv b39 kc_1 (by decide), kt_1]
                have b91 : IV x90 1 1 := by rw [ex90]; exact iv_add b39 kc_1 (by decide)
                refine m_iinc (v := x90) (L1 := [some (.ref (G.1 22 0)), some (.int a1), some (.int 1), some (.int a3), some (.int 1), some (.int y5), some (.int y6), some (.int x90), some (.int x51), some (.int 1), some (.int x63), some (.int x75), some (.int 1), some (.int x47)]) C dX12_bells_279 rfl (by rw [ex90]; rfl) (by decide) rfl rfl ?_
                refine m_goto (tgt := 138) C dX12_bells_282 (by decide) ?_
                refine m_sub (L1 := [some (.ref (G.1 22 0)), some (.int a1), some (.int 1), some (.int a3), some (.int 1), some (.int y5), some (.int y6), some (.int x90), none, none, none, none, none, none]) ⟨rfl, ⟨rfl, ⟨rfl, ⟨rfl, ⟨rfl, ⟨rfl, ⟨rfl, ⟨rfl, trivial⟩⟩⟩⟩⟩⟩⟩⟩ ?_
                have q92 : (gV τ72 22 0 8).toInt = (gV τ 22 0 8).toInt := congrArg Int32.toInt (show (gV τ72 22 0 8) = (gV τ 22 0 8) from (show gV τ72 22 0 8 = (gV τ 22 0 8) from (f74.1 22 0 (8) (by decide) (by decide)).trans (show gV τ65 22 0 8 = (gV τ 22 0 8) from (f67.1 22 0 (8) (by decide) (by decide)).trans rfl)))
                have q93 : (gV τ72 26 0 (a1.toInt.toNat)).toInt = (gV τ 26 0 (a1.toInt.toNat)).toInt := congrArg Int32.toInt (show (gV τ72 26 0 (a1.toInt.toNat)) = (gV τ 26 0 (a1.toInt.toNat)) from (show gV τ72 26 0 (a1.toInt.toNat) = (gV τ 26 0 (a1.toInt.toNat)) from (f74.1 26 0 ((a1.toInt.toNat)) (by simp) (by decide)).trans (show gV τ65 26 0 (a1.toInt.toNat) = (gV τ 26 0 (a1.toInt.toNat)) from (f67.1 26 0 ((a1.toInt.toNat)) (by simp) (by decide)).trans rfl)))
                have q94 : (gV τ72 27 0 (a1.toInt.toNat)).toInt = (gV τ 27 0 (a1.toInt.toNat)).toInt := congrArg Int32.toInt (show (gV τ72 27 0 (a1.toInt.toNat)) = (gV τ 27 0 (a1.toInt.toNat)) from (show gV τ72 27 0 (a1.toInt.toNat) = (gV τ 27 0 (a1.toInt.toNat)) from (f74.1 27 0 ((a1.toInt.toNat)) (by simp) (by decide)).trans (show gV τ65 27 0 (a1.toInt.toNat) = (gV τ 27 0 (a1.toInt.toNat)) from (f67.1 27 0 ((a1.toInt.toNat)) (by simp) (by decide)).trans rfl)))
                exact ih138 τ72 y5 y6 x90 i73 g77 b_a1 b_a3 b_y5 b_y6 (iv_wk b91 (by decide)) (by omega) (by omega) nL (by have q := hm138; omega)
              · have f95 : x51.toInt = 1 := by
                  have q : _ := c87
                  simp only [ti_nle, ti_nlt, ti_le, ti_lt, ti_eq, ti_ne, Classical.not_not, kt_1] at q
                  omega
                have b96 : IV x51 1 1 := ⟨by have q1 := b52; have q2 := kc_1; omega, by have q1 := b52; have q2 := kc_1; omega⟩
                refine m_iload C dX12_bells_259 rfl ?_
                refine m_if_lt (tgt := 271) C dX12_bells_261 (by decide) (fun c97 => ?_) (fun c97 => ?_)
                · have f98 : y5.toInt < 0 := by
                    have q : _ := c97
                    simp only [ti_nle, ti_nlt, ti_le, ti_lt, ti_eq, ti_ne, Classical.not_not, kt_0] at q
                    omega
                  have b99 : IV y5 (-1) (-1) := ⟨by have q1 := b_y5; have q2 := kc_0; omega, by have q1 := b_y5; have q2 := kc_0; omega⟩
                  refine m_iload C dX12_bells_271 rfl ?_
                  refine m_istore (L1 := [some (.ref (G.1 22 0)), some (.int a1), some (.int 1), some (.int a3), some (.int 1), some (.int y7), some (.int y6), some (.int y7), some (.int x51), some (.int 1), some (.int x63), some (.int x75), some (.int 1), some (.int x47)]) C dX12_bells_273 (by decide) rfl rfl ?_
                  refine m_iload C dX12_bells_275 rfl ?_
                  refine m_istore (L1 := [some (.ref (G.1 22 0)), some (.int a1), some (.int 1), some (.int a3), some (.int 1), some (.int y7), some (.int x75), some (.int y7), some (.int x51), some (.int 1), some (.int x63), some (.int x75), some (.int 1), some (.int x47)]) C dX12_bells_277 (by decide) rfl rfl ?_
                  obtain ⟨x100, ex100⟩ : ∃ y : Int32, y = y7 + 1 := ⟨_, rfl⟩
                  have tx100 : x100.toInt = y7.toInt + 1 := by rw [ex100, ti_addv b39 kc_1 (by decide), kt_1]
                  have b101 : IV x100 1 1 := by rw [ex100]; exact iv_add b39 kc_1 (by decide)
                  refine m_iinc (v := x100) (L1 := [some (.ref (G.1 22 0)), some (.int a1), some (.int 1), some (.int a3), some (.int 1), some (.int y7), some (.int x75), some (.int x100), some (.int x51), some (.int 1), some (.int x63), some (.int x75), some (.int 1), some (.int x47)]) C dX12_bells_279 rfl (by rw [ex100]; rfl) (by decide) rfl rfl ?_
                  refine m_goto (tgt := 138) C dX12_bells_282 (by decide) ?_
                  refine m_sub (L1 := [some (.ref (G.1 22 0)), some (.int a1), some (.int 1), some (.int a3), some (.int 1), some (.int y7), some (.int x75), some (.int x100), none, none, none, none, none, none]) ⟨rfl, ⟨rfl, ⟨rfl, ⟨rfl, ⟨rfl, ⟨rfl, ⟨rfl, ⟨rfl, trivial⟩⟩⟩⟩⟩⟩⟩⟩ ?_
                  have q102 : (gV τ72 22 0 8).toInt = (gV τ 22 0 8).toInt := congrArg Int32.toInt (show (gV τ72 22 0 8) = (gV τ 22 0 8) from (show gV τ72 22 0 8 = (gV τ 22 0 8) from (f74.1 22 0 (8) (by decide) (by decide)).trans (show gV τ65 22 0 8 = (gV τ 22 0 8) from (f67.1 22 0 (8) (by decide) (by decide)).trans rfl)))
                  have q103 : (gV τ72 26 0 (a1.toInt.toNat)).toInt = (gV τ 26 0 (a1.toInt.toNat)).toInt := congrArg Int32.toInt (show (gV τ72 26 0 (a1.toInt.toNat)) = (gV τ 26 0 (a1.toInt.toNat)) from (show gV τ72 26 0 (a1.toInt.toNat) = (gV τ 26 0 (a1.toInt.toNat)) from (f74.1 26 0 ((a1.toInt.toNat)) (by simp) (by decide)).trans (show gV τ65 26 0 (a1.toInt.toNat) = (gV τ 26 0 (a1.toInt.toNat)) from (f67.1 26 0 ((a1.toInt.toNat)) (by simp) (by decide)).trans rfl)))
                  have q104 : (gV τ72 27 0 (a1.toInt.toNat)).toInt = (gV τ 27 0 (a1.toInt.toNat)).toInt := congrArg Int32.toInt (show (gV τ72 27 0 (a1.toInt.toNat)) = (gV τ 27 0 (a1.toInt.toNat)) from (show gV τ72 27 0 (a1.toInt.toNat) = (gV τ 27 0 (a1.toInt.toNat)) from (f74.1 27 0 ((a1.toInt.toNat)) (by simp) (by decide)).trans (show gV τ65 27 0 (a1.toInt.toNat) = (gV τ 27 0 (a1.toInt.toNat)) from (f67.1 27 0 ((a1.toInt.toNat)) (by simp) (by decide)).trans rfl)))
                  exact ih138 τ72 y7 x75 x100 i73 g77 b_a1 b_a3 (iv_wk b39 (by decide)) b76 (iv_wk b101 (by decide)) (by omega) (by omega) nL (by have q := hm138; omega)
                · have f105 : 0 ≤ y5.toInt := by
                    have q : _ := c97
                    simp only [ti_nle, ti_nlt, ti_le, ti_lt, ti_eq, ti_ne, Classical.not_not, kt_0] at q
                    omega
                  have b106 : IV y5 0 0 := ⟨by have q1 := kc_0; have q2 := b_y5; omega, by have q1 := kc_0; have q2 := b_y5; omega⟩
                  refine m_iload C dX12_bells_264 rfl ?_
                  refine m_iload C dX12_bells_266 rfl ?_
                  refine m_icmp_ge (tgt := 279) C dX12_bells_268 (by decide) (fun c107 => ?_) (fun c107 => ?_)
                  · have f108 : y6.toInt ≤ x75.toInt := by
                      have q : _ := c107
                      simp only [ti_nle, ti_nlt, ti_le, ti_lt, ti_eq, ti_ne, Classical.not_not] at q
                      omega
                    obtain ⟨x109, ex109⟩ : ∃ y : Int32, y = y7 + 1 := ⟨_, rfl⟩
                    have tx109 : x109.toInt = y7.toInt + 1 := by rw [ex109, ti_addv b39 kc_1 (by decide), kt_1]
                    have b110 : IV x109 1 1 := by rw [ex109]; exact iv_add b39 kc_1 (by decide)
                    refine m_iinc (v := x109) (L1 := [some (.ref (G.1 22 0)), some (.int a1), some (.int 1), some (.int a3), some (.int 1), some (.int y5), some (.int y6), some (.int x109), some (.int x51), some (.int 1), some (.int x63), some (.int x75), some (.int 1), some (.int x47)]) C dX12_bells_279 rfl (by rw [ex109]; rfl) (by decide) rfl rfl ?_
                    refine m_goto (tgt := 138) C dX12_bells_282 (by decide) ?_
                    refine m_sub (L1 := [some (.ref (G.1 22 0)), some (.int a1), some (.int 1), some (.int a3), some (.int 1), some (.int y5), some (.int y6), some (.int x109), none, none, none, none, none, none]) ⟨rfl, ⟨rfl, ⟨rfl, ⟨rfl, ⟨rfl, ⟨rfl, ⟨rfl, ⟨rfl, trivial⟩⟩⟩⟩⟩⟩⟩⟩ ?_
                    have q111 : (gV τ72 22 0 8).toInt = (gV τ 22 0 8).toInt := congrArg Int32.toInt (show (gV τ72 22 0 8) = (gV τ 22 0 8) from (show gV τ72 22 0 8 = (gV τ 22 0 8) from (f74.1 22 0 (8) (by decide) (by decide)).trans (show gV τ65 22 0 8 = (gV τ 22 0 8) from (f67.1 22 0 (8) (by decide) (by decide)).trans rfl)))
                    have q112 : (gV τ72 26 0 (a1.toInt.toNat)).toInt = (gV τ 26 0 (a1.toInt.toNat)).toInt := congrArg Int32.toInt (show (gV τ72 26 0 (a1.toInt.toNat)) = (gV τ 26 0 (a1.toInt.toNat)) from (show gV τ72 26 0 (a1.toInt.toNat) = (gV τ 26 0 (a1.toInt.toNat)) from (f74.1 26 0 ((a1.toInt.toNat)) (by simp) (by decide)).trans (show gV τ65 26 0 (a1.toInt.toNat) = (gV τ 26 0 (a1.toInt.toNat)) from (f67.1 26 0 ((a1.toInt.toNat)) (by simp) (by decide)).trans rfl)))
                    have q113 : (gV τ72 27 0 (a1.toInt.toNat)).toInt = (gV τ 27 0 (a1.toInt.toNat)).toInt := congrArg Int32.toInt (show (gV τ72 27 0 (a1.toInt.toNat)) = (gV τ 27 0 (a1.toInt.toNat)) from (show gV τ72 27 0 (a1.toInt.toNat) = (gV τ 27 0 (a1.toInt.toNat)) from (f74.1 27 0 ((a1.toInt.toNat)) (by simp) (by decide)).trans (show gV τ65 27 0 (a1.toInt.toNat) = (gV τ 27 0 (a1.toInt.toNat)) from (f67.1 27 0 ((a1.toInt.toNat)) (by simp) (by decide)).trans rfl)))
                    exact ih138 τ72 y5 y6 x109 i73 g77 b_a1 b_a3 (iv_wk b106 (by decide)) b_y6 (iv_wk b110 (by decide)) (by omega) (by omega) nL (by have q := hm138; omega)
                  · have f114 : x75.toInt < y6.toInt := by
                      have q : _ := c107
                      simp only [ti_nle, ti_nlt, ti_le, ti_lt, ti_eq, ti_ne, Classical.not_not] at q
                      omega
                    have b115 : IV x75 (-2147483648) 2147483646 := ⟨by have q1 := b76; have q2 := b_y6; omega, by have q1 := b76; have q2 := b_y6; omega⟩
                    have b116 : IV y6 (-2147483647) 2147483647 := ⟨by have q1 := b76; have q2 := b_y6; omega, by have q1 := b76; have q2 := b_y6; omega⟩
                    refine m_iload C dX12_bells_271 rfl ?_
                    refine m_istore (L1 := [some (.ref (G.1 22 0)), some (.int a1), some (.int 1), some (.int a3), some (.int 1), some (.int y7), some (.int y6), some (.int y7), some (.int x51), some (.int 1), some (.int x63), some (.int x75), some (.int 1), some (.int x47)]) C dX12_bells_273 (by decide) rfl rfl ?_
                    refine m_iload C dX12_bells_275 rfl ?_
                    refine m_istore (L1 := [some (.ref (G.1 22 0)), some (.int a1), some (.int 1), some (.int a3), some (.int 1), some (.int y7), some (.int x75), some (.int y7), some (.int x51), some (.int 1), some (.int x63), some (.int x75), some (.int 1), some (.int x47)]) C dX12_bells_277 (by decide) rfl rfl ?_
                    obtain ⟨x117, ex117⟩ : ∃ y : Int32, y = y7 + 1 := ⟨_, rfl⟩
                    have tx117 : x117.toInt = y7.toInt + 1 := by rw [ex117, ti_addv b39 kc_1 (by decide), kt_1]
                    have b118 : IV x117 1 1 := by rw [ex117]; exact iv_add b39 kc_1 (by decide)
                    refine m_iinc (v := x117) (L1 := [some (.ref (G.1 22 0)), some (.int a1), some (.int 1), some (.int a3), some (.int 1), some (.int y7), some (.int x75), some (.int x117), some (.int x51), some (.int 1), some (.int x63), some (.int x75), some (.int 1), some (.int x47)]) C dX12_bells_279 rfl (by rw [ex117]; rfl) (by decide) rfl rfl ?_
                    refine m_goto (tgt := 138) C dX12_bells_282 (by decide) ?_
                    refine m_sub (L1 := [some (.ref (G.1 22 0)), some (.int a1), some (.int 1), some (.int a3), some (.int 1), some (.int y7), some (.int x75), some (.int x117), none, none, none, none, none, none]) ⟨rfl, ⟨rfl, ⟨rfl, ⟨rfl, ⟨rfl, ⟨rfl, ⟨rfl, ⟨rfl, trivial⟩⟩⟩⟩⟩⟩⟩⟩ ?_
                    have q119 : (gV τ72 22 0 8).toInt = (gV τ 22 0 8).toInt := congrArg Int32.toInt (show (gV τ72 22 0 8) = (gV τ 22 0 8) from (show gV τ72 22 0 8 = (gV τ 22 0 8) from (f74.1 22 0 (8) (by decide) (by decide)).trans (show gV τ65 22 0 8 = (gV τ 22 0 8) from (f67.1 22 0 (8) (by decide) (by decide)).trans rfl)))
                    have q120 : (gV τ72 26 0 (a1.toInt.toNat)).toInt = (gV τ 26 0 (a1.toInt.toNat)).toInt := congrArg Int32.toInt (show (gV τ72 26 0 (a1.toInt.toNat)) = (gV τ 26 0 (a1.toInt.toNat)) from (show gV τ72 26 0 (a1.toInt.toNat) = (gV τ 26 0 (a1.toInt.toNat)) from (f74.1 26 0 ((a1.toInt.toNat)) (by simp) (by decide)).trans (show gV τ65 26 0 (a1.toInt.toNat) = (gV τ 26 0 (a1.toInt.toNat)) from (f67.1 26 0 ((a1.toInt.toNat)) (by simp) (by decide)).trans rfl)))
                    have q121 : (gV τ72 27 0 (a1.toInt.toNat)).toInt = (gV τ 27 0 (a1.toInt.toNat)).toInt := congrArg Int32.toInt (show (gV τ72 27 0 (a1.toInt.toNat)) = (gV τ 27 0 (a1.toInt.toNat)) from (show gV τ72 27 0 (a1.toInt.toNat) = (gV τ 27 0 (a1.toInt.toNat)) from (f74.1 27 0 ((a1.toInt.toNat)) (by simp) (by decide)).trans (show gV τ65 27 0 (a1.toInt.toNat) = (gV τ 27 0 (a1.toInt.toNat)) from (f67.1 27 0 ((a1.toInt.toNat)) (by simp) (by decide)).trans rfl)))
                    exact ih138 τ72 y7 x75 x117 i73 g77 b_a1 b_a3 (iv_wk b39 (by decide)) (iv_wk b115 (by decide)) (iv_wk b118 (by decide)) (by omega) (by omega) nL (by have q := hm138; omega)
            · first | exact absurd c81 (by decide) | exact absurd (by decide) c81
  have J61 : ∀ (n : Nat) (τ : Sg) (y4 : Int32), Inv τ → Fr MS_X12_bells_1Q AS_X12_bells_1Q σ τ → IV a1 0 7 → IV a3 (-1) 2147483647 → IV y4 0 1 → (((0 ≤ a1.toInt ∧ a1.toInt ≤ 7) ∧ 1 ≤ 1 ∧ 1 ≤ 5 ∧ -1 ≤ a3.toInt ∧ 0 ≤ (gV σ 26 0 (a1.toInt.toNat)).toInt ∧ 1 ≤ (gV σ 27 0 (a1.toInt.toNat)).toInt)) → ((gV τ 22 0 8).toInt = (gV σ 22 0 8).toInt) → (AlJ σ (a1.toInt.toNat) y4.toInt 1 20) → (1 - y4.toInt).toNat < n → MW p l e { frames := 2, cells := 0, slots := 0, locals := 60 } s m args below meth c (MQ below (QP G (PI fun r τ => Inv τ ∧ Fr MS_X12_bells_1Q AS_X12_bells_1Q σ τ ∧ IV r (-2147483648) 2147483647 ∧ BLM σ τ a1 a3 1)) args s 0 0 (aG G)) 14 G 0 0 61 [some (.ref (G.1 22 0)), some (.int a1), some (.int 1), some (.int a3), some (.int y4), none, none, none, none, none, none, none, none, none] [] τ := by
    intro n
    induction n with
    | zero => intro τ y4 iτ fτ b_a1 b_a3 b_y4 n123 n124 nL hm; exact absurd hm (Nat.not_lt_zero _)
    | succ n ih61 =>
      intro τ y4 iτ fτ b_a1 b_a3 b_y4 n123 n124 nL hm61
      have u125 : IV (gV τ 27 0 (a1.toInt.toNat)) 0 40 := iτ.1 27 0 (a1.toInt.toNat)
      refine m_iload C dX12_bells_61 rfl ?_
      refine m_iload_n C dX12_bells_63 rfl rfl ?_
      refine m_icmp_ge (tgt := 99) C dX12_bells_64 (by decide) (fun c126 => ?_) (fun c126 => ?_)
      · have f127 : 1 ≤ y4.toInt := by
          have q : _ := c126
          simp only [ti_nle, ti_nlt, ti_le, ti_lt, ti_eq, ti_ne, Classical.not_not, kt_1] at q
          omega
        have b128 : IV y4 1 1 := ⟨by have q1 := kc_1; have q2 := b_y4; omega, by have q1 := kc_1; have q2 := b_y4; omega⟩
        refine m_aload_n C dX12_bells_99 rfl rfl ?_
        refine m_iconst (v := 0) C dX12_bells_100 (by decide) ?_
        have q129 := kt_0
        refine m_callV (n := 1) (ci := 11) (st := []) C (c_X12_fineQ l G τ (0) iτ ) (by decide) (by decide) rfl rfl rfl q4_201 q4_198 q4_200 q0_27 q1_7 (by decide +kernel) rfl (by decide) (by decide) rfl (Nat.le_of_ble_eq_true rfl) dX12_bells_101 ?_
        rintro _ τ130 ⟨x133, rfl, i131, f132, b134, h136⟩
        have g135 : Fr MS_X12_bells_1Q AS_X12_bells_1Q σ τ130 := Fr.call (fτ) f132 (by decide)
        have q137 : (gV τ130 26 0 (a1.toInt.toNat)).toInt = (gV τ 26 0 (a1.toInt.toNat)).toInt := congrArg Int32.toInt (show (gV τ130 26 0 (a1.toInt.toNat)) = (gV τ 26 0 (a1.toInt.toNat)) from (show gV τ130 26 0 (a1.toInt.toNat) = (gV τ 26 0 (a1.toInt.toNat)) from (f132.1 26 0 ((a1.toInt.toNat)) (by simp) (by decide)).trans rfl))
        have q138 : (gV τ130 27 0 (a1.toInt.toNat)).toInt = (gV τ 27 0 (a1.toInt.toNat)).toInt := congrArg Int32.toInt (show (gV τ130 27 0 (a1.toInt.toNat)) = (gV τ 27 0 (a1.toInt.toNat)) from (show gV τ130 27 0 (a1.toInt.toNat) = (gV τ 27 0 (a1.toInt.toNat)) from (f132.1 27 0 ((a1.toInt.toNat)) (by simp) (by decide)).trans rfl))
        have q139 := kt_0
        show MW p l e _ s m args below meth c _ 14 G 0 0 104 [some (.ref (G.1 22 0)), some (.int a1), some (.int 1), some (.int a3), some (.int y4), none, none, none, none, none, none, none, none, none] [.int x133] τ130
        refine m_pop C dX12_bells_104 rfl ?_
        refine m_iconst (v := 1) C dX12_bells_105 (by decide) ?_
        refine m_istore (L1 := [some (.ref (G.1 22 0)), some (.int a1), some (.int 1), some (.int a3), some (.int 1), none, none, none, none, none, none, none, none, none]) C dX12_bells_106 (by decide) rfl rfl ?_
        refine m_iconst (v := 0) C dX12_bells_108 (by decide) ?_
        refine m_istore (L1 := [some (.ref (G.1 22 0)), some (.int a1), some (.int 1), some (.int a3), some (.int 1), some (.int 0), none, none, none, none, none, none, none, none]) C dX12_bells_109 (by decide) rfl rfl ?_
        refine m_iload C dX12_bells_111 rfl ?_
        refine m_iload_n C dX12_bells_113 rfl rfl ?_
        refine m_icmp_ge (tgt := 129) C dX12_bells_114 (by decide) (fun c140 => ?_) (fun c140 => ?_)
        · first | exact absurd c140 (by decide) | exact absurd (by decide) c140
        · have f142 : 0 < 1 := by
            have q : _ := c140
            simp only [ti_nle, ti_nlt, ti_le, ti_lt, ti_eq, ti_ne, Classical.not_not, kt_0, kt_1] at q
            omega
          refine m_iload C dX12_bells_117 rfl ?_
          refine m_iload_n C dX12_bells_119 rfl rfl ?_
          refine m_imul C dX12_bells_120 ?_
          refine m_topi (fun x143 ex143 => ?_)
          have b144 : IV x143 1 1 := by rw [ex143]; decide
          have tx143 : x143.toInt = 1 := by rw [ex143]; decide
          obtain rfl : x143 = 1 := by rw [ex143]; decide
          refine m_istore (L1 := [some (.ref (G.1 22 0)), some (.int a1), some (.int 1), some (.int a3), some (.int 1), some (.int 0), none, none, none, none, none, none, none, none]) C dX12_bells_121 (by decide) rfl rfl ?_
          obtain ⟨x145, ex145⟩ : ∃ y : Int32, y = 0 + 1 := ⟨_, rfl⟩
          have b146 : IV x145 1 1 := by rw [ex145]; decide
          have tx145 : x145.toInt = 1 := by rw [ex145]; decide
          obtain rfl : x145 = 1 := by rw [ex145]; decide
          refine m_iinc (v := 1) (L1 := [some (.ref (G.1 22 0)), some (.int a1), some (.int 1), some (.int a3), some (.int 1), some (.int 1), none, none, none, none, none, none, none, none]) C dX12_bells_123 rfl (by decide) (by decide) rfl rfl ?_
          refine m_goto (tgt := 111) C dX12_bells_126 (by decide) ?_
          refine m_iload C dX12_bells_111 rfl ?_
          refine m_iload_n C dX12_bells_113 rfl rfl ?_
          refine m_icmp_ge (tgt := 129) C dX12_bells_114 (by decide) (fun c147 => ?_) (fun c147 => ?_)
          · have f148 : 1 ≤ 1 := by
              have q : _ := c147
              simp only [ti_nle, ti_nlt, ti_le, ti_lt, ti_eq, ti_ne, Classical.not_not, kt_1, kt_1] at q
              omega
            refine m_iconst (v := (-1)) C dX12_bells_129 (by decide) ?_
            refine m_istore (L1 := [some (.ref (G.1 22 0)), some (.int a1), some (.int 1), some (.int a3), some (.int 1), some (.int (-1)), none, none, none, none, none, none, none, none]) C dX12_bells_130 (by decide) rfl rfl ?_
            refine m_iconst (v := 0) C dX12_bells_132 (by decide) ?_
            refine m_istore (L1 := [some (.ref (G.1 22 0)), some (.int a1), some (.int 1), some (.int a3), some (.int 1), some (.int (-1)), some (.int 0), none, none, none, none, none, none, none]) C dX12_bells_133 (by decide) rfl rfl ?_
            refine m_iconst (v := 0) C dX12_bells_135 (by decide) ?_
            refine m_istore (L1 := [some (.ref (G.1 22 0)), some (.int a1), some (.int 1), some (.int a3), some (.int 1), some (.int (-1)), some (.int 0), some (.int 0), none, none, none, none, none, none]) C dX12_bells_136 (by decide) rfl rfl ?_
            exact J138 ((1 - (0 : Int32).toInt).toNat + 1) τ130 (-1) 0 0 i131 g135 b_a1 b_a3 (iv_wk kc_m1 (by decide)) (iv_wk kc_0 (by decide)) (iv_wk kc_0 (by decide)) (by omega) (by omega) (nL.all (by omega)) (Nat.lt_succ_self _)
          · first | exact absurd c147 (by decide) | exact absurd (by decide) c147
      · have f150 : y4.toInt < 1 := by
          have q : _ := c126
          simp only [ti_nle, ti_nlt, ti_le, ti_lt, ti_eq, ti_ne, Classical.not_not, kt_1] at q
          omega
        have b151 : IV y4 0 0 := ⟨by have q1 := b_y4; have q2 := kc_1; omega, by have q1 := b_y4; have q2 := kc_1; omega⟩
        refine m_aload_n C dX12_bells_67 rfl rfl ?_
        refine g_22_2 C q4_118 dX12_bells_68 ?_
        refine m_bipush (v := 40) C dX12_bells_71 (by decide) ?_
        refine m_iload_n C dX12_bells_73 rfl rfl ?_
        refine m_imul C dX12_bells_74 ?_
        refine m_topi (fun x152 ex152 => ?_)
        have tx152 : x152.toInt = 40 * a1.toInt := by rw [ex152, ti_mulv kc_40 b_a1 (by decide), kt_40]
        have b153 : IV x152 0 280 := by rw [ex152]; exact iv_mul kc_40 b_a1 (by decide)
        refine m_iload C dX12_bells_75 rfl ?_
        refine m_iadd C dX12_bells_77 ?_
        refine m_topi (fun x154 ex154 => ?_)
        have tx154 : x154.toInt = x152.toInt + y4.toInt := by rw [ex154, ti_addv b153 b151 (by decide)]
        have b155 : IV x154 0 280 := by rw [ex154]; exact iv_add b153 b151 (by decide)
        refine al_25 C b155 (by decide) rfl dX12_bells_78 ?_
        refine m_topi (fun x156 ex156 => ?_)
        have q157 : (gV σ 25 0 (40 * (a1.toInt.toNat) + y4.toInt.toNat)).toInt = x156.toInt := by rw [show 40 * (a1.toInt.toNat) + y4.toInt.toNat = (x154.toInt.toNat) by omega, ← (fτ).1 25 0 (x154.toInt.toNat) (by simp) (by decide), show gV τ 25 0 (x154.toInt.toNat) = x156 from ex156.symm]
        refine m_i2l C dX12_bells_79 ?_
        refine m_lconst (v := 1) C dX12_bells_80 (by decide) ?_
        refine m_ldc2 (v := 20) C dX12_bells_81 q5_174 ?_
        refine m_callS (n := 3) (st := []) C (c_X12_in l G τ ((x156 : Int32).toInt64) (1) (20) iτ ) q4_190 q4_188 q4_189 q1_7 (by decide +kernel) rfl (by decide) (by decide) rfl (Nat.le_of_ble_eq_true rfl) dX12_bells_84 ?_
        rintro _ τ158 ⟨x161, rfl, i159, f160, b162, h164⟩
        have g163 : Fr MS_X12_bells_1Q AS_X12_bells_1Q σ τ158 := Fr.call (fτ) f160 (by decide)
        have q165 : (gV τ158 22 0 8).toInt = (gV τ 22 0 8).toInt := congrArg Int32.toInt (show (gV τ158 22 0 8) = (gV τ 22 0 8) from (show gV τ158 22 0 8 = (gV τ 22 0 8) from (f160.1 22 0 (8) (by decide) (by decide)).trans rfl))
        have q166 : (gV τ158 26 0 (a1.toInt.toNat)).toInt = (gV τ 26 0 (a1.toInt.toNat)).toInt := congrArg Int32.toInt (show (gV τ158 26 0 (a1.toInt.toNat)) = (gV τ 26 0 (a1.toInt.toNat)) from (show gV τ158 26 0 (a1.toInt.toNat) = (gV τ 26 0 (a1.toInt.toNat)) from (f160.1 26 0 ((a1.toInt.toNat)) (by simp) (by decide)).trans rfl))
        have q167 : (gV τ158 27 0 (a1.toInt.toNat)).toInt = (gV τ 27 0 (a1.toInt.toNat)).toInt := congrArg Int32.toInt (show (gV τ158 27 0 (a1.toInt.toNat)) = (gV τ 27 0 (a1.toInt.toNat)) from (show gV τ158 27 0 (a1.toInt.toNat) = (gV τ 27 0 (a1.toInt.toNat)) from (f160.1 27 0 ((a1.toInt.toNat)) (by simp) (by decide)).trans rfl))
        have f168 := tl_i x156
        have f169 := kl_1
        have f170 := kl_20
        rcases h164 with ⟨h164_0, h164_1, h164_2⟩ | ⟨h164_0, h164_1⟩
        · skip
          have b171 : IV x161 1 1 := ⟨by omega, by omega⟩
          show MW p l e _ s m args below meth c _ 14 G 0 0 87 [some (.ref (G.1 22 0)), some (.int a1), some (.int 1), some (.int a3), some (.int y4), none, none, none, none, none, none, none, none, none] [.int x161] τ158
          refine m_if_ne (tgt := 93) C dX12_bells_87 (by decide) (fun c172 => ?_) (fun c172 => ?_)
          · have f173 : x161.toInt ≠ 0 := by
              have q : _ := c172
              simp only [ti_nle, ti_nlt, ti_le, ti_lt, ti_eq, ti_ne, Classical.not_not, kt_0] at q
              omega
            have b174 : IV x156 1 20 := ⟨by have q1 := (iv_any x156); omega, by have q1 := (iv_any x156); omega⟩
            obtain ⟨x175, ex175⟩ : ∃ y : Int32, y = y4 + 1 := ⟨_, rfl⟩
            have tx175 : x175.toInt = y4.toInt + 1 := by rw [ex175, ti_addv b151 kc_1 (by decide), kt_1]
            have b176 : IV x175 1 1 := by rw [ex175]; exact iv_add b151 kc_1 (by decide)
            refine m_iinc (v := x175) (L1 := [some (.ref (G.1 22 0)), some (.int a1), some (.int 1), some (.int a3), some (.int x175), none, none, none, none, none, none, none, none, none]) C dX12_bells_93 rfl (by rw [ex175]; rfl) (by decide) rfl rfl ?_
            refine m_goto (tgt := 61) C dX12_bells_96 (by decide) ?_
            exact ih61 τ158 x175 i159 g163 b_a1 b_a3 (iv_wk b176 (by decide)) (by omega) (by omega) (nL.more (k := y4.toInt.toNat) (by omega) (by omega) ⟨by omega, by omega⟩) (by have q := hm61; omega)
          · exfalso
            have q : _ := c172
            simp only [ti_nle, ti_nlt, ti_le, ti_lt, ti_eq, ti_ne, Classical.not_not, kt_0] at q
            have q1 := b171; have q2 := kc_0; omega
        · skip
          have b178 : IV x161 0 0 := ⟨by omega, by omega⟩
          show MW p l e _ s m args below meth c _ 14 G 0 0 87 [some (.ref (G.1 22 0)), some (.int a1), some (.int 1), some (.int a3), some (.int y4), none, none, none, none, none, none, none, none, none] [.int x161] τ158
          refine m_if_ne (tgt := 93) C dX12_bells_87 (by decide) (fun c179 => ?_) (fun c179 => ?_)
          · exfalso
            have q : _ := c179
            simp only [ti_nle, ti_nlt, ti_le, ti_lt, ti_eq, ti_ne, Classical.not_not, kt_0] at q
            have q1 := b178; have q2 := kc_0; omega
          · have f181 : x161.toInt = 0 := by
              have q : _ := c179
              simp only [ti_nle, ti_nlt, ti_le, ti_lt, ti_eq, ti_ne, Classical.not_not, kt_0] at q
              omega
            refine m_ldc (v := (-1000001)) C dX12_bells_90 q4_192 ?_
            exact m_iret C hr hlk (by decide) (by decide) dX12_bells_92 ⟨_, rfl, i159, g163, (iv_wk kc_m1000001 (by decide)), (Or.inr (Or.inr (Or.inr (Or.inl ⟨by have qk := kt_m1000001; omega, by have qk := kt_m1000001; omega, by have qk := kt_m1000001; omega, (fun g => by have q := g y4.toInt.toNat (by omega); omega), by have qk := kt_m1000001; omega⟩))))⟩
  have u182 : IV (gV σ 27 0 (a1.toInt.toNat)) 0 40 := hI.1 27 0 (a1.toInt.toNat)
  refine m_iload_n C dX12_bells_0 rfl rfl ?_
  refine m_callS (n := 1) (st := []) C (c_X12_isRow l G σ (a1) hI ) q4_186 q4_184 q4_185 q1_7 (by decide +kernel) rfl (by decide) (by decide) rfl (Nat.le_of_ble_eq_true rfl) dX12_bells_1 ?_
  rintro _ τ183 ⟨x186, rfl, i184, f185, b187, h189⟩
  have g188 : Fr MS_X12_bells_1Q AS_X12_bells_1Q σ τ183 := Fr.call (Fr.rf) f185 (by decide)
  have q190 : (gV τ183 22 0 8).toInt = (gV σ 22 0 8).toInt := congrArg Int32.toInt (show (gV τ183 22 0 8) = (gV σ 22 0 8) from (show gV τ183 22 0 8 = (gV σ 22 0 8) from (f185.1 22 0 (8) (by decide) (by decide)).trans rfl))
  have q191 : (gV τ183 26 0 (a1.toInt.toNat)).toInt = (gV σ 26 0 (a1.toInt.toNat)).toInt := congrArg Int32.toInt (show (gV τ183 26 0 (a1.toInt.toNat)) = (gV σ 26 0 (a1.toInt.toNat)) from (show gV τ183 26 0 (a1.toInt.toNat) = (gV σ 26 0 (a1.toInt.toNat)) from (f185.1 26 0 ((a1.toInt.toNat)) (by simp) (by decide)).trans rfl))
  have q192 : (gV τ183 27 0 (a1.toInt.toNat)).toInt = (gV σ 27 0 (a1.toInt.toNat)).toInt := congrArg Int32.toInt (show (gV τ183 27 0 (a1.toInt.toNat)) = (gV σ 27 0 (a1.toInt.toNat)) from (show gV τ183 27 0 (a1.toInt.toNat) = (gV σ 27 0 (a1.toInt.toNat)) from (f185.1 27 0 ((a1.toInt.toNat)) (by simp) (by decide)).trans rfl))
  rcases h189 with ⟨h189_0, h189_1, h189_2⟩ | ⟨h189_0, h189_1⟩
  · skip
    have b193 : IV x186 1 1 := ⟨by omega, by omega⟩
    show MW p l e _ s m args below meth c _ 14 G 0 0 4 [some (.ref (G.1 22 0)), some (.int a1), some (.int 1), some (.int a3), none, none, none, none, none, none, none, none, none, none] [.int x186] τ183
    refine m_if_eq (tgt := 24) C dX12_bells_4 (by decide) (fun c194 => ?_) (fun c194 => ?_)
    · exfalso
      have q : _ := c194
      simp only [ti_nle, ti_nlt, ti_le, ti_lt, ti_eq, ti_ne, Classical.not_not, kt_0] at q
      have q1 := b193; have q2 := kc_0; omega
    · have f196 : x186.toInt ≠ 0 := by
        have q : _ := c194
        simp only [ti_nle, ti_nlt, ti_le, ti_lt, ti_eq, ti_ne, Classical.not_not, kt_0] at q
        omega
      have b197 : IV a1 0 7 := ⟨by have q1 := (iv_any a1); omega, by have q1 := (iv_any a1); omega⟩
      refine m_iload_n C dX12_bells_7 rfl rfl ?_
      refine m_i2l C dX12_bells_8 ?_
      refine m_lconst (v := 1) C dX12_bells_9 (by decide) ?_
      refine m_ldc2 (v := 5) C dX12_bells_10 q5_173 ?_
      refine m_callS (n := 3) (st := []) C (c_X12_in l G τ183 ((1 : Int32).toInt64) (1) (5) i184 ) q4_190 q4_188 q4_189 q1_7 (by decide +kernel) rfl (by decide) (by decide) rfl (Nat.le_of_ble_eq_true rfl) dX12_bells_13 ?_
      rintro _ τ198 ⟨x201, rfl, i199, f200, b202, h204⟩
      have g203 : Fr MS_X12_bells_1Q AS_X12_bells_1Q σ τ198 := Fr.call (g188) f200 (by decide)
      have q205 : (gV τ198 22 0 8).toInt = (gV σ 22 0 8).toInt := congrArg Int32.toInt (show (gV τ198 22 0 8) = (gV σ 22 0 8) from (show gV τ198 22 0 8 = (gV σ 22 0 8) from (f200.1 22 0 (8) (by decide) (by decide)).trans (show gV τ183 22 0 8 = (gV σ 22 0 8) from (f185.1 22 0 (8) (by decide) (by decide)).trans rfl)))
      have q206 : (gV τ198 26 0 (a1.toInt.toNat)).toInt = (gV σ 26 0 (a1.toInt.toNat)).toInt := congrArg Int32.toInt (show (gV τ198 26 0 (a1.toInt.toNat)) = (gV σ 26 0 (a1.toInt.toNat)) from (show gV τ198 26 0 (a1.toInt.toNat) = (gV σ 26 0 (a1.toInt.toNat)) from (f200.1 26 0 ((a1.toInt.toNat)) (by simp) (by decide)).trans (show gV τ183 26 0 (a1.toInt.toNat) = (gV σ 26 0 (a1.toInt.toNat)) from (f185.1 26 0 ((a1.toInt.toNat)) (by simp) (by decide)).trans rfl)))
      have q207 : (gV τ198 27 0 (a1.toInt.toNat)).toInt = (gV σ 27 0 (a1.toInt.toNat)).toInt := congrArg Int32.toInt (show (gV τ198 27 0 (a1.toInt.toNat)) = (gV σ 27 0 (a1.toInt.toNat)) from (show gV τ198 27 0 (a1.toInt.toNat) = (gV σ 27 0 (a1.toInt.toNat)) from (f200.1 27 0 ((a1.toInt.toNat)) (by simp) (by decide)).trans (show gV τ183 27 0 (a1.toInt.toNat) = (gV σ 27 0 (a1.toInt.toNat)) from (f185.1 27 0 ((a1.toInt.toNat)) (by simp) (by decide)).trans rfl)))
      have f208 := tl_i 1
      have kf208 := kt_1
      have f209 := kl_1
      have f210 := kl_5
      rcases h204 with ⟨h204_0, h204_1, h204_2⟩ | ⟨h204_0, h204_1⟩
      · skip
        have b211 : IV x201 1 1 := ⟨by omega, by omega⟩
        show MW p l e _ s m args below meth c _ 14 G 0 0 16 [some (.ref (G.1 22 0)), some (.int a1), some (.int 1), some (.int a3), none, none, none, none, none, none, none, none, none, none] [.int x201] τ198
        refine m_if_eq (tgt := 24) C dX12_bells_16 (by decide) (fun c212 => ?_) (fun c212 => ?_)
        · exfalso
          have q : _ := c212
          simp only [ti_nle, ti_nlt, ti_le, ti_lt, ti_eq, ti_ne, Classical.not_not, kt_0] at q
          have q1 := b211; have q2 := kc_0; omega
        · have f214 : x201.toInt ≠ 0 := by
            have q : _ := c212
            simp only [ti_nle, ti_nlt, ti_le, ti_lt, ti_eq, ti_ne, Classical.not_not, kt_0] at q
            omega
          refine m_iload_n C dX12_bells_19 rfl rfl ?_
          refine m_iconst (v := (-1)) C dX12_bells_20 (by decide) ?_
          refine m_icmp_ge (tgt := 27) C dX12_bells_21 (by decide) (fun c215 => ?_) (fun c215 => ?_)
          · have f216 : -1 ≤ a3.toInt := by
              have q : _ := c215
              simp only [ti_nle, ti_nlt, ti_le, ti_lt, ti_eq, ti_ne, Classical.not_not, kt_m1] at q
              omega
            have b217 : IV a3 (-1) 2147483647 := ⟨by have q1 := kc_m1; have q2 := (iv_any a3); omega, by have q1 := kc_m1; have q2 := (iv_any a3); omega⟩
            refine m_aload_n C dX12_bells_27 rfl rfl ?_
            refine g_22_3 C q4_119 dX12_bells_28 ?_
            refine m_iload_n C dX12_bells_31 rfl rfl ?_
            refine al_26 C b197 (by decide) rfl dX12_bells_32 ?_
            refine m_eqs (w := (gV σ 26 0 (a1.toInt.toNat))) (show gV τ198 26 0 (a1.toInt.toNat) = (gV σ 26 0 (a1.toInt.toNat)) from (f200.1 26 0 ((a1.toInt.toNat)) (by simp) (by decide)).trans (show gV τ183 26 0 (a1.toInt.toNat) = (gV σ 26 0 (a1.toInt.toNat)) from (f185.1 26 0 ((a1.toInt.toNat)) (by simp) (by decide)).trans rfl)) ?_
            refine m_if_ge (tgt := 42) C dX12_bells_33 (by decide) (fun c218 => ?_) (fun c218 => ?_)
            · have f219 : 0 ≤ (gV σ 26 0 (a1.toInt.toNat)).toInt := by
                have q : _ := c218
                simp only [ti_nle, ti_nlt, ti_le, ti_lt, ti_eq, ti_ne, Classical.not_not, kt_0] at q
                omega
              have b220 : IV (gV σ 26 0 (a1.toInt.toNat)) 0 2147483647 := ⟨by have q1 := kc_0; have q2 := (iv_any (gV σ 26 0 (a1.toInt.toNat))); omega, by have q1 := kc_0; have q2 := (iv_any (gV σ 26 0 (a1.toInt.toNat))); omega⟩
              refine m_aload_n C dX12_bells_42 rfl rfl ?_
              refine g_22_4 C q4_120 dX12_bells_43 ?_
              refine m_iload_n C dX12_bells_46 rfl rfl ?_
              refine al_27 C b197 (by decide) rfl dX12_bells_47 ?_
              refine m_eqs (w := (gV σ 27 0 (a1.toInt.toNat))) (show gV τ198 27 0 (a1.toInt.toNat) = (gV σ 27 0 (a1.toInt.toNat)) from (f200.1 27 0 ((a1.toInt.toNat)) (by simp) (by decide)).trans (show gV τ183 27 0 (a1.toInt.toNat) = (gV σ 27 0 (a1.toInt.toNat)) from (f185.1 27 0 ((a1.toInt.toNat)) (by simp) (by decide)).trans rfl)) ?_
              refine m_iload_n C dX12_bells_48 rfl rfl ?_
              refine m_icmp_ge (tgt := 58) C dX12_bells_49 (by decide) (fun c221 => ?_) (fun c221 => ?_)
              · have f222 : 1 ≤ (gV σ 27 0 (a1.toInt.toNat)).toInt := by
                  have q : _ := c221
                  simp only [ti_nle, ti_nlt, ti_le, ti_lt, ti_eq, ti_ne, Classical.not_not, kt_1] at q
                  omega
                have b223 : IV (gV σ 27 0 (a1.toInt.toNat)) 1 40 := ⟨by have q1 := kc_1; have q2 := u182; omega, by have q1 := kc_1; have q2 := u182; omega⟩
                refine m_iconst (v := 0) C dX12_bells_58 (by decide) ?_
                refine m_istore (L1 := [some (.ref (G.1 22 0)), some (.int a1), some (.int 1), some (.int a3), some (.int 0), none, none, none, none, none, none, none, none, none]) C dX12_bells_59 (by decide) rfl rfl ?_
                exact J61 ((1 - (0 : Int32).toInt).toNat + 1) τ198 0 i199 g203 b197 b217 (iv_wk kc_0 (by decide)) (by omega) (by omega) (AlJ.zero (by have q := kt_0; omega)) (Nat.lt_succ_self _)
              · have f224 : (gV σ 27 0 (a1.toInt.toNat)).toInt < 1 := by
                  have q : _ := c221
                  simp only [ti_nle, ti_nlt, ti_le, ti_lt, ti_eq, ti_ne, Classical.not_not, kt_1] at q
                  omega
                have b225 : IV (gV σ 27 0 (a1.toInt.toNat)) 0 0 := ⟨by have q1 := u182; have q2 := kc_1; omega, by have q1 := u182; have q2 := kc_1; omega⟩
                refine m_aload_n C dX12_bells_52 rfl rfl ?_
                refine m_iconst (v := 2) C dX12_bells_53 (by decide) ?_
                have q226 := kt_2
                refine m_callV (n := 1) (ci := 11) (st := []) C (c_X12_metQ l G τ198 (2) i199 (iv_wk kc_2 (by decide))) (by decide) (by decide) rfl rfl rfl q4_196 q4_193 q4_195 q0_26 q1_7 (by decide +kernel) rfl (by decide) (by decide) rfl (Nat.le_of_ble_eq_true rfl) dX12_bells_54 ?_
                rintro _ τ227 ⟨x230, rfl, i228, f229, b231, h233⟩
                have g232 : Fr MS_X12_bells_1Q AS_X12_bells_1Q σ τ227 := Fr.call (g203) f229 (by decide)
                have q234 : (gV τ227 26 0 (a1.toInt.toNat)).toInt = (gV σ 26 0 (a1.toInt.toNat)).toInt := congrArg Int32.toInt (show (gV τ227 26 0 (a1.toInt.toNat)) = (gV σ 26 0 (a1.toInt.toNat)) from (show gV τ227 26 0 (a1.toInt.toNat) = (gV σ 26 0 (a1.toInt.toNat)) from (f229.1 26 0 ((a1.toInt.toNat)) (by simp) (by decide)).trans (show gV τ198 26 0 (a1.toInt.toNat) = (gV σ 26 0 (a1.toInt.toNat)) from (f200.1 26 0 ((a1.toInt.toNat)) (by simp) (by decide)).trans (show gV τ183 26 0 (a1.toInt.toNat) = (gV σ 26 0 (a1.toInt.toNat)) from (f185.1 26 0 ((a1.toInt.toNat)) (by simp) (by decide)).trans rfl))))
                have q235 : (gV τ227 27 0 (a1.toInt.toNat)).toInt = (gV σ 27 0 (a1.toInt.toNat)).toInt := congrArg Int32.toInt (show (gV τ227 27 0 (a1.toInt.toNat)) = (gV σ 27 0 (a1.toInt.toNat)) from (show gV τ227 27 0 (a1.toInt.toNat) = (gV σ 27 0 (a1.toInt.toNat)) from (f229.1 27 0 ((a1.toInt.toNat)) (by simp) (by decide)).trans (show gV τ198 27 0 (a1.toInt.toNat) = (gV σ 27 0 (a1.toInt.toNat)) from (f200.1 27 0 ((a1.toInt.toNat)) (by simp) (by decide)).trans (show gV τ183 27 0 (a1.toInt.toNat) = (gV σ 27 0 (a1.toInt.toNat)) from (f185.1 27 0 ((a1.toInt.toNat)) (by simp) (by decide)).trans rfl))))
                have q236 := kt_2
                show MW p l e _ s m args below meth c _ 14 G 0 0 57 [some (.ref (G.1 22 0)), some (.int a1), some (.int 1), some (.int a3), none, none, none, none, none, none, none, none, none, none] [.int x230] τ227
                exact m_iret C hr hlk (by decide) (by decide) dX12_bells_57 ⟨_, rfl, i228, g232, (iv_wk b231 (by decide)), (Or.inr (Or.inr (Or.inl ⟨by omega, by omega, by omega, by omega⟩)))⟩
            · have f237 : (gV σ 26 0 (a1.toInt.toNat)).toInt < 0 := by
                have q : _ := c218
                simp only [ti_nle, ti_nlt, ti_le, ti_lt, ti_eq, ti_ne, Classical.not_not, kt_0] at q
                omega
              have b238 : IV (gV σ 26 0 (a1.toInt.toNat)) (-2147483648) (-1) := ⟨by have q1 := (iv_any (gV σ 26 0 (a1.toInt.toNat))); have q2 := kc_0; omega, by have q1 := (iv_any (gV σ 26 0 (a1.toInt.toNat))); have q2 := kc_0; omega⟩
              refine m_aload_n C dX12_bells_36 rfl rfl ?_
              refine m_iconst (v := 1) C dX12_bells_37 (by decide) ?_
              have q239 := kt_1
              refine m_callV (n := 1) (ci := 11) (st := []) C (c_X12_metQ l G τ198 (1) i199 (iv_wk kc_1 (by decide))) (by decide) (by decide) rfl rfl rfl q4_196 q4_193 q4_195 q0_26 q1_7 (by decide +kernel) rfl (by decide) (by decide) rfl (Nat.le_of_ble_eq_true rfl) dX12_bells_38 ?_
              rintro _ τ240 ⟨x243, rfl, i241, f242, b244, h246⟩
              have g245 : Fr MS_X12_bells_1Q AS_X12_bells_1Q σ τ240 := Fr.call (g203) f242 (by decide)
              have q247 : (gV τ240 26 0 (a1.toInt.toNat)).toInt = (gV σ 26 0 (a1.toInt.toNat)).toInt := congrArg Int32.toInt (show (gV τ240 26 0 (a1.toInt.toNat)) = (gV σ 26 0 (a1.toInt.toNat)) from (show gV τ240 26 0 (a1.toInt.toNat) = (gV σ 26 0 (a1.toInt.toNat)) from (f242.1 26 0 ((a1.toInt.toNat)) (by simp) (by decide)).trans (show gV τ198 26 0 (a1.toInt.toNat) = (gV σ 26 0 (a1.toInt.toNat)) from (f200.1 26 0 ((a1.toInt.toNat)) (by simp) (by decide)).trans (show gV τ183 26 0 (a1.toInt.toNat) = (gV σ 26 0 (a1.toInt.toNat)) from (f185.1 26 0 ((a1.toInt.toNat)) (by simp) (by decide)).trans rfl))))
              have q248 : (gV τ240 27 0 (a1.toInt.toNat)).toInt = (gV σ 27 0 (a1.toInt.toNat)).toInt := congrArg Int32.toInt (show (gV τ240 27 0 (a1.toInt.toNat)) = (gV σ 27 0 (a1.toInt.toNat)) from (show gV τ240 27 0 (a1.toInt.toNat) = (gV σ 27 0 (a1.toInt.toNat)) from (f242.1 27 0 ((a1.toInt.toNat)) (by simp) (by decide)).trans (show gV τ198 27 0 (a1.toInt.toNat) = (gV σ 27 0 (a1.toInt.toNat)) from (f200.1 27 0 ((a1.toInt.toNat)) (by simp) (by decide)).trans (show gV τ183 27 0 (a1.toInt.toNat) = (gV σ 27 0 (a1.toInt.toNat)) from (f185.1 27 0 ((a1.toInt.toNat)) (by simp) (by decide)).trans rfl))))
              have q249 := kt_1
              show MW p l e _ s m args below meth c _ 14 G 0 0 41 [some (.ref (G.1 22 0)), some (.int a1), some (.int 1), some (.int a3), none, none, none, none, none, none, none, none, none, none] [.int x243] τ240
              exact m_iret C hr hlk (by decide) (by decide) dX12_bells_41 ⟨_, rfl, i241, g245, (iv_wk b244 (by decide)), (Or.inr (Or.inl ⟨by omega, by omega, by omega⟩))⟩
          · have f250 : a3.toInt < -1 := by
              have q : _ := c215
              simp only [ti_nle, ti_nlt, ti_le, ti_lt, ti_eq, ti_ne, Classical.not_not, kt_m1] at q
              omega
            have b251 : IV a3 (-2147483648) (-2) := ⟨by have q1 := (iv_any a3); have q2 := kc_m1; omega, by have q1 := (iv_any a3); have q2 := kc_m1; omega⟩
            refine m_ldc (v := (-1000001)) C dX12_bells_24 q4_192 ?_
            exact m_iret C hr hlk (by decide) (by decide) dX12_bells_26 ⟨_, rfl, i199, g203, (iv_wk kc_m1000001 (by decide)), (Or.inl ⟨by have qk := kt_m1000001; omega, by have qk := kt_m1000001; omega⟩)⟩
      · skip
        have b252 : IV x201 0 0 := ⟨by omega, by omega⟩
        show MW p l e _ s m args below meth c _ 14 G 0 0 16 [some (.ref (G.1 22 0)), some (.int a1), some (.int 1), some (.int a3), none, none, none, none, none, none, none, none, none, none] [.int x201] τ198
        refine m_if_eq (tgt := 24) C dX12_bells_16 (by decide) (fun c253 => ?_) (fun c253 => ?_)
        · have f254 : x201.toInt = 0 := by
            have q : _ := c253
            simp only [ti_nle, ti_nlt, ti_le, ti_lt, ti_eq, ti_ne, Classical.not_not, kt_0] at q
            omega
          refine m_ldc (v := (-1000001)) C dX12_bells_24 q4_192 ?_
          exact m_iret C hr hlk (by decide) (by decide) dX12_bells_26 ⟨_, rfl, i199, g203, (iv_wk kc_m1000001 (by decide)), (Or.inl ⟨by have qk := kt_m1000001; omega, by have qk := kt_m1000001; omega⟩)⟩
        · exfalso
          have q : _ := c253
          simp only [ti_nle, ti_nlt, ti_le, ti_lt, ti_eq, ti_ne, Classical.not_not, kt_0] at q
          have q1 := b252; have q2 := kc_0; omega
  · skip
    have b256 : IV x186 0 0 := ⟨by omega, by omega⟩
    show MW p l e _ s m args below meth c _ 14 G 0 0 4 [some (.ref (G.1 22 0)), some (.int a1), some (.int 1), some (.int a3), none, none, none, none, none, none, none, none, none, none] [.int x186] τ183
    refine m_if_eq (tgt := 24) C dX12_bells_4 (by decide) (fun c257 => ?_) (fun c257 => ?_)
    · have f258 : x186.toInt = 0 := by
        have q : _ := c257
        simp only [ti_nle, ti_nlt, ti_le, ti_lt, ti_eq, ti_ne, Classical.not_not, kt_0] at q
        omega
      refine m_ldc (v := (-1000001)) C dX12_bells_24 q4_192 ?_
      exact m_iret C hr hlk (by decide) (by decide) dX12_bells_26 ⟨_, rfl, i184, g188, (iv_wk kc_m1000001 (by decide)), (Or.inl ⟨by have qk := kt_m1000001; omega, by have qk := kt_m1000001; omega⟩)⟩
    · exfalso
      have q : _ := c257
      simp only [ti_nle, ti_nlt, ti_le, ti_lt, ti_eq, ti_ne, Classical.not_not, kt_0] at q
      have q1 := b256; have q2 := kc_0; omega

abbrev MS_X12_bells_2Q : List (Nat × Nat) := [(22, 8)]
abbrev AS_X12_bells_2Q : List Nat := []
set_option maxHeartbeats 4000000 in
set_option maxRecDepth 100000 in
theorem c_X12_bells_2Q (l : Launch) (G : Gt) (σ : Sg) (a1 : Int32) (a3 : Int32) (hI : Inv σ) : Mc l G yX12_bells cX12_bells 14 (some .int) 2 60 0 0 [.ref (G.1 22 0), .int a1, .int 2, .int a3] σ (PI fun r τ => Inv τ ∧ Fr MS_X12_bells_2Q AS_X12_bells_2Q σ τ ∧ IV r (-2147483648) 2147483647 ∧ BLM σ τ a1 a3 2) := by
  refine Mc.of (L0 := [some (.ref (G.1 22 0)), some (.int a1), some (.int 2), some (.int a3), none, none, none, none, none, none, none, none, none, none]) (by decide) (Nat.le_of_ble_eq_true rfl) rfl ?_
  intro p e s m args below meth c C hr hlk
  have C : Cx p s m args c cX12_bells 14 "LeanTowerModel" := C
  have k0 : (0 : Int32).toInt = 0 := by decide
  have k1 : (1 : Int32).toInt = 1 := by decide
  have J138 : ∀ (n : Nat) (τ : Sg) (y5 : Int32) (y6 : Int32) (y7 : Int32), Inv τ → Fr MS_X12_bells_2Q AS_X12_bells_2Q σ τ → IV a1 0 7 → IV a3 (-1) 2147483647 → IV y5 (-1) 3 → IV y6 (-2147483648) 2147483647 → IV y7 0 4 → (((0 ≤ a1.toInt ∧ a1.toInt ≤ 7) ∧ 1 ≤ 2 ∧ 2 ≤ 5 ∧ -1 ≤ a3.toInt ∧ 0 ≤ (gV σ 26 0 (a1.toInt.toNat)).toInt ∧ 2 ≤ (gV σ 27 0 (a1.toInt.toNat)).toInt)) → ((gV τ 22 0 8).toInt = 0) → (AlJ σ (a1.toInt.toNat) 2 1 20) → (4 - y7.toInt).toNat < n → MW p l e { frames := 2, cells := 0, slots := 0, locals := 60 } s m args below meth c (MQ below (QP G (PI fun r τ => Inv τ ∧ Fr MS_X12_bells_2Q AS_X12_bells_2Q σ τ ∧ IV r (-2147483648) 2147483647 ∧ BLM σ τ a1 a3 2)) args s 0 0 (aG G)) 14 G 0 0 138 [some (.ref (G.1 22 0)), some (.int a1), some (.int 2), some (.int a3), some (.int 4), some (.int y5), some (.int y6), some (.int y7), none, none, none, none, none, none] [] τ := by
    intro n
    induction n with
    | zero => intro τ y5 y6 y7 iτ fτ b_a1 b_a3 b_y5 b_y6 b_y7 n1 n2 nL hm; exact absurd hm (Nat.not_lt_zero _)
    | succ n ih138 =>
      intro τ y5 y6 y7 iτ fτ b_a1 b_a3 b_y5 b_y6 b_y7 n1 n2 nL hm138
      have u3 : IV (gV τ 27 0 (a1.toInt.toNat)) 0 40 := iτ.1 27 0 (a1.toInt.toNat)
      refine m_iload C dX12_bells_138 rfl ?_
      refine m_iload C dX12_bells_140 rfl ?_
      refine m_icmp_ge (tgt := 285) C dX12_bells_142 (by decide) (fun c4 => ?_) (fun c4 => ?_)
      · have f5 : 4 ≤ y7.toInt := by
          have q : _ := c4
          simp only [ti_nle, ti_nlt, ti_le, ti_lt, ti_eq, ti_ne, Classical.not_not, kt_4] at q
          omega
        have b6 : IV y7 4 4 := ⟨by have q1 := kc_4; have q2 := b_y7; omega, by have q1 := kc_4; have q2 := b_y7; omega⟩
        refine m_iload_n C dX12_bells_285 rfl rfl ?_
        refine m_if_ge (tgt := 292) C dX12_bells_286 (by decide) (fun c7 => ?_) (fun c7 => ?_)
        · have f8 : 0 ≤ a3.toInt := by
            have q : _ := c7
            simp only [ti_nle, ti_nlt, ti_le, ti_lt, ti_eq, ti_ne, Classical.not_not, kt_0] at q
            omega
          have b9 : IV a3 0 2147483647 := ⟨by have q1 := kc_0; have q2 := b_a3; omega, by have q1 := kc_0; have q2 := b_a3; omega⟩
          refine m_iload C dX12_bells_292 rfl ?_
          refine m_istore (L1 := [some (.ref (G.1 22 0)), some (.int a1), some (.int 2), some (.int a3), some (.int 4), some (.int y5), some (.int y6), some (.int 4), none, none, none, none, none, none]) C dX12_bells_294 (by decide) rfl rfl ?_
          refine m_iconst (v := 0) C dX12_bells_296 (by decide) ?_
          refine m_istore (L1 := [some (.ref (G.1 22 0)), some (.int a1), some (.int 2), some (.int a3), some (.int 4), some (.int y5), some (.int y6), some (.int 4), some (.int 0), none, none, none, none, none]) C dX12_bells_297 (by decide) rfl rfl ?_
          refine m_iload C dX12_bells_299 rfl ?_
          refine m_iload_n C dX12_bells_301 rfl rfl ?_
          refine m_icmp_gt (tgt := 323) C dX12_bells_302 (by decide) (fun c10 => ?_) (fun c10 => ?_)
          · exfalso
            have q : _ := c10
            simp only [ti_nle, ti_nlt, ti_le, ti_lt, ti_eq, ti_ne, Classical.not_not, kt_0] at q
            have q1 := kc_0; have q2 := b9; omega
          · have f12 : 0 ≤ a3.toInt := by
              have q : _ := c10
              simp only [ti_nle, ti_nlt, ti_le, ti_lt, ti_eq, ti_ne, Classical.not_not, kt_0] at q
              omega
            refine m_iload C dX12_bells_305 rfl ?_
            refine m_iload_n C dX12_bells_307 rfl rfl ?_
            refine m_icmp_ge (tgt := 323) C dX12_bells_308 (by decide) (fun c13 => ?_) (fun c13 => ?_)
            · first | exact absurd c13 (by decide) | exact absurd (by decide) c13
            · have f15 : 0 < 2 := by
                have q : _ := c13
                simp only [ti_nle, ti_nlt, ti_le, ti_lt, ti_eq, ti_ne, Classical.not_not, kt_0, kt_2] at q
                omega
              refine m_iload C dX12_bells_311 rfl ?_
              refine m_iload_n C dX12_bells_313 rfl rfl ?_
              refine m_idiv C dX12_bells_314 (iv_nz kc_2 (by decide)) ?_
              refine m_topi (fun x16 ex16 => ?_)
              have b17 : IV x16 2 2 := by rw [ex16]; decide
              have tx16 : x16.toInt = 2 := by rw [ex16]; decide
              obtain rfl : x16 = 2 := by rw [ex16]; decide
              refine m_istore (L1 := [some (.ref (G.1 22 0)), some (.int a1), some (.int 2), some (.int a3), some (.int 4), some (.int y5), some (.int y6), some (.int 2), some (.int 0), none, none, none, none, none]) C dX12_bells_315 (by decide) rfl rfl ?_
              obtain ⟨x18, ex18⟩ : ∃ y : Int32, y = 0 + 1 := ⟨_, rfl⟩
              have b19 : IV x18 1 1 := by rw [ex18]; decide
              have tx18 : x18.toInt = 1 := by rw [ex18]; decide
              obtain rfl : x18 = 1 := by rw [ex18]; decide
              refine m_iinc (v := 1) (L1 := [some (.ref (G.1 22 0)), some (.int a1), some (.int 2), some (.int a3), some (.int 4), some (.int y5), some (.int y6), some (.int 2), some (.int 1), none, none, none, none, none]) C dX12_bells_317 rfl (by decide) (by decide) rfl rfl ?_
              refine m_goto (tgt := 299) C dX12_bells_320 (by decide) ?_
              refine m_iload C dX12_bells_299 rfl ?_
              refine m_iload_n C dX12_bells_301 rfl rfl ?_
              refine m_icmp_gt (tgt := 323) C dX12_bells_302 (by decide) (fun c20 => ?_) (fun c20 => ?_)
              · have f21 : a3.toInt < 1 := by
                  have q : _ := c20
                  simp only [ti_nle, ti_nlt, ti_le, ti_lt, ti_eq, ti_ne, Classical.not_not, kt_1] at q
                  omega
                have b22 : IV a3 0 0 := ⟨by have q1 := b9; have q2 := kc_1; omega, by have q1 := b9; have q2 := kc_1; omega⟩
                refine m_iload_n C dX12_bells_323 rfl rfl ?_
                refine m_iload_n C dX12_bells_324 rfl rfl ?_
                refine m_icmp_ge (tgt := 338) C dX12_bells_325 (by decide) (fun c23 => ?_) (fun c23 => ?_)
                · exfalso
                  have q : _ := c23
                  simp only [ti_nle, ti_nlt, ti_le, ti_lt, ti_eq, ti_ne, Classical.not_not, kt_2] at q
                  have q1 := b22; have q2 := kc_2; omega
                · have f25 : a3.toInt < 2 := by
                    have q : _ := c23
                    simp only [ti_nle, ti_nlt, ti_le, ti_lt, ti_eq, ti_ne, Classical.not_not, kt_2] at q
                    omega
                  refine m_iload C dX12_bells_328 rfl ?_
                  refine m_iload C dX12_bells_330 rfl ?_
                  refine m_idiv C dX12_bells_332 (iv_nz kc_2 (by decide)) ?_
                  refine m_topi (fun x26 ex26 => ?_)
                  refine m_iload_n C dX12_bells_333 rfl rfl ?_
                  refine m_irem C dX12_bells_334 (iv_nz kc_2 (by decide)) ?_
                  refine m_topi (fun x27 ex27 => ?_)
                  refine m_goto (tgt := 340) C dX12_bells_335 (by decide) ?_
                  exact m_iret C hr hlk (by decide) (by decide) dX12_bells_340 ⟨_, rfl, iτ, fτ, (iv_any x27), (Or.inr (Or.inr (Or.inr (Or.inr (⟨by omega, by omega, by omega, nL, by omega⟩)))))⟩
              · have f28 : 1 ≤ a3.toInt := by
                  have q : _ := c20
                  simp only [ti_nle, ti_nlt, ti_le, ti_lt, ti_eq, ti_ne, Classical.not_not, kt_1] at q
                  omega
                have b29 : IV a3 1 2147483647 := ⟨by have q1 := kc_1; have q2 := b9; omega, by have q1 := kc_1; have q2 := b9; omega⟩
                refine m_iload C dX12_bells_305 rfl ?_
                refine m_iload_n C dX12_bells_307 rfl rfl ?_
                refine m_icmp_ge (tgt := 323) C dX12_bells_308 (by decide) (fun c30 => ?_) (fun c30 => ?_)
                · first | exact absurd c30 (by decide) | exact absurd (by decide) c30
                · have f32 : 1 < 2 := by
                    have q : _ := c30
                    simp only [ti_nle, ti_nlt, ti_le, ti_lt, ti_eq, ti_ne, Classical.not_not, kt_1, kt_2] at q
                    omega
                  refine m_iload C dX12_bells_311 rfl ?_
                  refine m_iload_n C dX12_bells_313 rfl rfl ?_
                  refine m_idiv C dX12_bells_314 (iv_nz kc_2 (by decide)) ?_
                  refine m_topi (fun x33 ex33 => ?_)
                  have b34 : IV x33 1 1 := by rw [ex33]; decide
                  have tx33 : x33.toInt = 1 := by rw [ex33]; decide
                  obtain rfl : x33 = 1 := by rw [ex33]; decide
                  refine m_istore (L1 := [some (.ref (G.1 22 0)), some (.int a1), some (.int 2), some (.int a3), some (.int 4), some (.int y5), some (.int y6), some (.int 1), some (.int 1), none, none, none, none, none]) C dX12_bells_315 (by decide) rfl rfl ?_
                  obtain ⟨x35, ex35⟩ : ∃ y : Int32, y = 1 + 1 := ⟨_, rfl⟩
                  have b36 : IV x35 2 2 := by rw [ex35]; decide
                  have tx35 : x35.toInt = 2 := by rw [ex35]; decide
                  obtain rfl : x35 = 2 := by rw [ex35]; decide
                  refine m_iinc (v := 2) (L1 := [some (.ref (G.1 22 0)), some (.int a1), some (.int 2), some (.int a3), some (.int 4), some (.int y5), some (.int y6), some (.int 1), some (.int 2), none, none, none, none, none]) C dX12_bells_317 rfl (by decide) (by decide) rfl rfl ?_
                  refine m_goto (tgt := 299) C dX12_bells_320 (by decide) ?_
                  refine m_iload C dX12_bells_299 rfl ?_
                  refine m_iload_n C dX12_bells_301 rfl rfl ?_
                  refine m_icmp_gt (tgt := 323) C dX12_bells_302 (by decide) (fun c37 => ?_) (fun c37 => ?_)
                  · have f38 : a3.toInt < 2 := by
                      have q : _ := c37
                      simp only [ti_nle, ti_nlt, ti_le, ti_lt, ti_eq, ti_ne, Classical.not_not, kt_2] at q
                      omega
                    have b39 : IV a3 1 1 := ⟨by have q1 := b29; have q2 := kc_2; omega, by have q1 := b29; have q2 := kc_2; omega⟩
                    refine m_iload_n C dX12_bells_323 rfl rfl ?_
                    refine m_iload_n C dX12_bells_324 rfl rfl ?_
                    refine m_icmp_ge (tgt := 338) C dX12_bells_325 (by decide) (fun c40 => ?_) (fun c40 => ?_)
                    · exfalso
                      have q : _ := c40
                      simp only [ti_nle, ti_nlt, ti_le, ti_lt, ti_eq, ti_ne, Classical.not_not, kt_2] at q
                      have q1 := b39; have q2 := kc_2; omega
                    · have f42 : a3.toInt < 2 := by
                        have q : _ := c40
                        simp only [ti_nle, ti_nlt, ti_le, ti_lt, ti_eq, ti_ne, Classical.not_not, kt_2] at q
                        omega
                      refine m_iload C dX12_bells_328 rfl ?_
                      refine m_iload C dX12_bells_330 rfl ?_
                      refine m_idiv C dX12_bells_332 (iv_nz kc_1 (by decide)) ?_
                      refine m_topi (fun x43 ex43 => ?_)
                      refine m_iload_n C dX12_bells_333 rfl rfl ?_
                      refine m_irem C dX12_bells_334 (iv_nz kc_2 (by decide)) ?_
                      refine m_topi (fun x44 ex44 => ?_)
                      refine m_goto (tgt := 340) C dX12_bells_335 (by decide) ?_
                      exact m_iret C hr hlk (by decide) (by decide) dX12_bells_340 ⟨_, rfl, iτ, fτ, (iv_any x44), (Or.inr (Or.inr (Or.inr (Or.inr (⟨by omega, by omega, by omega, nL, by omega⟩)))))⟩
                  · have f45 : 2 ≤ a3.toInt := by
                      have q : _ := c37
                      simp only [ti_nle, ti_nlt, ti_le, ti_lt, ti_eq, ti_ne, Classical.not_not, kt_2] at q
                      omega
                    have b46 : IV a3 2 2147483647 := ⟨by have q1 := kc_2; have q2 := b29; omega, by have q1 := kc_2; have q2 := b29; omega⟩
                    refine m_iload C dX12_bells_305 rfl ?_
                    refine m_iload_n C dX12_bells_307 rfl rfl ?_
                    refine m_icmp_ge (tgt := 323) C dX12_bells_308 (by decide) (fun c47 => ?_) (fun c47 => ?_)
                    · have f48 : 2 ≤ 2 := by
                        have q : _ := c47
                        simp only [ti_nle, ti_nlt, ti_le, ti_lt, ti_eq, ti_ne, Classical.not_not, kt_2, kt_2] at q
                        omega
                      refine m_iload_n C dX12_bells_323 rfl rfl ?_
                      refine m_iload_n C dX12_bells_324 rfl rfl ?_
                      refine m_icmp_ge (tgt := 338) C dX12_bells_325 (by decide) (fun c49 => ?_) (fun c49 => ?_)
                      · have f50 : 2 ≤ a3.toInt := by
                          have q : _ := c49
                          simp only [ti_nle, ti_nlt, ti_le, ti_lt, ti_eq, ti_ne, Classical.not_not, kt_2] at q
                          omega
                        refine m_ldc (v := (-1000000)) C dX12_bells_338 q5_70 ?_
                        exact m_iret C hr hlk (by decide) (by decide) dX12_bells_340 ⟨_, rfl, iτ, fτ, (iv_wk kc_m1000000 (by decide)), (Or.inr (Or.inr (Or.inr (Or.inr (⟨by have qk := kt_m1000000; omega, by have qk := kt_m1000000; omega, by have qk := kt_m1000000; omega, nL, by have qk := kt_m1000000; omega⟩)))))⟩
                      · exfalso
                        have q : _ := c49
                        simp only [ti_nle, ti_nlt, ti_le, ti_lt, ti_eq, ti_ne, Classical.not_not, kt_2] at q
                        have q1 := b46; have q2 := kc_2; omega
                    · first | exact absurd c47 (by decide) | exact absurd (by decide) c47
        · have f53 : a3.toInt < 0 := by
            have q : _ := c7
            simp only [ti_nle, ti_nlt, ti_le, ti_lt, ti_eq, ti_ne, Classical.not_not, kt_0] at q
            omega
          have b54 : IV a3 (-1) (-1) := ⟨by have q1 := b_a3; have q2 := kc_0; omega, by have q1 := b_a3; have q2 := kc_0; omega⟩
          refine m_iload C dX12_bells_289 rfl ?_
          exact m_iret C hr hlk (by decide) (by decide) dX12_bells_291 ⟨_, rfl, iτ, fτ, b_y6, (Or.inr (Or.inr (Or.inr (Or.inr (⟨by omega, by omega, by omega, nL, by omega⟩)))))⟩
      · have f55 : y7.toInt < 4 := by
          have q : _ := c4
          simp only [ti_nle, ti_nlt, ti_le, ti_lt, ti_eq, ti_ne, Classical.not_not, kt_4] at q
          omega
        have b56 : IV y7 0 3 := ⟨by have q1 := b_y7; have q2 := kc_4; omega, by have q1 := b_y7; have q2 := kc_4; omega⟩
        refine m_iconst (v := 0) C dX12_bells_145 (by decide) ?_
        refine m_istore (L1 := [some (.ref (G.1 22 0)), some (.int a1), some (.int 2), some (.int a3), some (.int 4), some (.int y5), some (.int y6), some (.int y7), some (.int 0), none, none, none, none, none]) C dX12_bells_146 (by decide) rfl rfl ?_
        refine m_iload C dX12_bells_148 rfl ?_
        refine m_istore (L1 := [some (.ref (G.1 22 0)), some (.int a1), some (.int 2), some (.int a3), some (.int 4), some (.int y5), some (.int y6), some (.int y7), some (.int 0), some (.int 4), none, none, none, none]) C dX12_bells_150 (by decide) rfl rfl ?_
        refine m_iconst (v := 0) C dX12_bells_152 (by decide) ?_
        refine m_istore (L1 := [some (.ref (G.1 22 0)), some (.int a1), some (.int 2), some (.int a3), some (.int 4), some (.int y5), some (.int y6), some (.int y7), some (.int 0), some (.int 4), some (.int 0), none, none, none]) C dX12_bells_153 (by decide) rfl rfl ?_
        refine m_iconst (v := 0) C dX12_bells_155 (by decide) ?_
        refine m_istore (L1 := [some (.ref (G.1 22 0)), some (.int a1), some (.int 2), some (.int a3), some (.int 4), some (.int y5), some (.int y6), some (.int y7), some (.int 0), some (.int 4), some (.int 0), some (.int 0), none, none]) C dX12_bells_156 (by decide) rfl rfl ?_
        refine m_iconst (v := 0) C dX12_bells_158 (by decide) ?_
        refine m_istore (L1 := [some (.ref (G.1 22 0)), some (.int a1), some (.int 2), some (.int a3), some (.int 4), some (.int y5), some (.int y6), some (.int y7), some (.int 0), some (.int 4), some (.int 0), some (.int 0), some (.int 0), none]) C dX12_bells_159 (by decide) rfl rfl ?_
        refine m_iload C dX12_bells_161 rfl ?_
        refine m_iload_n C dX12_bells_163 rfl rfl ?_
        refine m_icmp_ge (tgt := 249) C dX12_bells_164 (by decide) (fun c57 => ?_) (fun c57 => ?_)
        · first | exact absurd c57 (by decide) | exact absurd (by decide) c57
        · have f59 : 0 < 2 := by
            have q : _ := c57
            simp only [ti_nle, ti_nlt, ti_le, ti_lt, ti_eq, ti_ne, Classical.not_not, kt_0, kt_2] at q
            omega
          refine m_iload C dX12_bells_167 rfl ?_
          refine m_iload_n C dX12_bells_169 rfl rfl ?_
          refine m_idiv C dX12_bells_170 (iv_nz kc_2 (by decide)) ?_
          refine m_topi (fun x60 ex60 => ?_)
          have b61 : IV x60 2 2 := by rw [ex60]; decide
          have tx60 : x60.toInt = 2 := by rw [ex60]; decide
          obtain rfl : x60 = 2 := by rw [ex60]; decide
          refine m_istore (L1 := [some (.ref (G.1 22 0)), some (.int a1), some (.int 2), some (.int a3), some (.int 4), some (.int y5), some (.int y6), some (.int y7), some (.int 0), some (.int 2), some (.int 0), some (.int 0), some (.int 0), none]) C dX12_bells_171 (by decide) rfl rfl ?_
          refine m_iload C dX12_bells_173 rfl ?_
          refine m_iload C dX12_bells_175 rfl ?_
          refine m_idiv C dX12_bells_177 (iv_nz kc_2 (by decide)) ?_
          refine m_topi (fun x62 ex62 => ?_)
          have b63 : IV x62 0 1 := by rw [ex62]; exact iv_div b56 kc_2 (by decide)
          refine m_iload_n C dX12_bells_178 rfl rfl ?_
          refine m_irem C dX12_bells_179 (iv_nz kc_2 (by decide)) ?_
          refine m_topi (fun x64 ex64 => ?_)
          have b65 : IV x64 0 1 := by rw [ex64]; exact iv_rem b63 kc_2 (by decide)
          refine m_istore (L1 := [some (.ref (G.1 22 0)), some (.int a1), some (.int 2), some (.int a3), some (.int 4), some (.int y5), some (.int y6), some (.int y7), some (.int 0), some (.int 2), some (.int 0), some (.int 0), some (.int 0), some (.int x64)]) C dX12_bells_180 (by decide) rfl rfl ?_
          refine m_iload C dX12_bells_182 rfl ?_
          refine m_iconst (v := 1) C dX12_bells_184 (by decide) ?_
          refine m_iload C dX12_bells_185 rfl ?_
          refine m_ishl C dX12_bells_187 ?_
          refine m_topi (fun x66 ex66 => ?_)
          have b67 : IV x66 1 2 := by rw [ex66]; exact iv_shl1 b65 (by decide)
          refine m_ior C dX12_bells_188 ?_
          refine m_topi (fun x68 ex68 => ?_)
          have b69 : IV x68 0 3 := by rw [ex68]; exact iv_or 2 kc_0 b67 (by decide)
          refine m_istore (L1 := [some (.ref (G.1 22 0)), some (.int a1), some (.int 2), some (.int a3), some (.int 4), some (.int y5), some (.int y6), some (.int y7), some (.int x68), some (.int 2), some (.int 0), some (.int 0), some (.int 0), some (.int x64)]) C dX12_bells_189 (by decide) rfl rfl ?_
          refine m_iload C dX12_bells_191 rfl ?_
          refine m_iload C dX12_bells_193 rfl ?_
          refine m_iconst (v := 2) C dX12_bells_195 (by decide) ?_
          refine m_irem C dX12_bells_196 (iv_nz kc_2 (by decide)) ?_
          refine m_topi (fun x70 ex70 => ?_)
          have b71 : IV x70 0 0 := by rw [ex70]; decide
          have tx70 : x70.toInt = 0 := by rw [ex70]; decide
          obtain rfl : x70 = 0 := by rw [ex70]; decide
          refine m_if_ne (tgt := 215) C dX12_bells_197 (by decide) (fun c72 => ?_) (fun c72 => ?_)
          · first | exact absurd c72 (by decide) | exact absurd (by decide) c72
          · have f74 : 0 = 0 := by
              have q : _ := c72
              simp only [ti_nle, ti_nlt, ti_le, ti_lt, ti_eq, ti_ne, Classical.not_not, kt_0, kt_0] at q
              omega
            refine m_aload_n C dX12_bells_200 rfl rfl ?_
            refine g_22_2 C q4_118 dX12_bells_201 ?_
            refine m_bipush (v := 40) C dX12_bells_204 (by decide) ?_
            refine m_iload_n C dX12_bells_206 rfl rfl ?_
            refine m_imul C dX12_bells_207 ?_
            refine m_topi (fun x75 ex75 => ?_)
            have tx75 : x75.toInt = 40 * a1.toInt := by rw [ex75, ti_mulv kc_40 b_a1 (by decide), kt_40]
            have b76 : IV x75 0 280 := by rw [ex75]; exact iv_mul kc_40 b_a1 (by decide)
            refine m_iload C dX12_bells_208 rfl ?_
            refine m_iadd C dX12_bells_210 ?_
            refine m_topi (fun x77 ex77 => ?_)
            have tx77 : x77.toInt = x75.toInt + x64.toInt := by rw [ex77, ti_addv b76 b65 (by decide)]
            have b78 : IV x77 0 281 := by rw [ex77]; exact iv_add b76 b65 (by decide)
            refine al_25 C b78 (by decide) rfl dX12_bells_211 ?_
            refine m_topi (fun x79 ex79 => ?_)
            refine m_goto (tgt := 228) C dX12_bells_212 (by decide) ?_
            refine m_iadd C dX12_bells_228 ?_
            refine m_topi (fun x80 ex80 => ?_)
            have tx80 : x80.toInt = 0 + x79.toInt := by rw [ex80, ti_addv kc_0 (iv_any x79) (by decide), kt_0]
            have b81 : IV x80 (-2147483648) 2147483647 := by rw [ex80]; exact iv_add kc_0 (iv_any x79) (by decide)
            refine m_istore (L1 := [some (.ref (G.1 22 0)), some (.int a1), some (.int 2), some (.int a3), some (.int 4), some (.int y5), some (.int y6), some (.int y7), some (.int x68), some (.int 2), some (.int x80), some (.int 0), some (.int 0), some (.int x64)]) C dX12_bells_229 (by decide) rfl rfl ?_
            refine m_iload C dX12_bells_231 rfl ?_
            refine m_iload C dX12_bells_233 rfl ?_
            refine m_callS (n := 1) (st := [.int 0]) C (c_X12_sizeOf l G τ (x80) iτ ) q5_96 q5_94 q5_95 q1_7 (by decide +kernel) rfl (by decide) (by decide) rfl (Nat.le_of_ble_eq_true rfl) dX12_bells_235 ?_
            rintro _ τ82 ⟨x85, rfl, i83, f84, b86⟩
            have g87 : Fr MS_X12_bells_2Q AS_X12_bells_2Q σ τ82 := Fr.call (fτ) f84 (by decide)
            show MW p l e _ s m args below meth c _ 14 G 0 0 238 [some (.ref (G.1 22 0)), some (.int a1), some (.int 2), some (.int a3), some (.int 4), some (.int y5), some (.int y6), some (.int y7), some (.int x68), some (.int 2), some (.int x80), some (.int 0), some (.int 0), some (.int x64)] [.int x85, .int 0] τ82
            refine m_callS (n := 2) (st := []) C (c_X12_greater l G τ82 (0) (x85) i83 ) q5_99 q5_97 q5_98 q1_7 (by decide +kernel) rfl (by decide) (by decide) rfl (Nat.le_of_ble_eq_true rfl) dX12_bells_238 ?_
            rintro _ τ89 ⟨x92, rfl, i90, f91, b93⟩
            have g94 : Fr MS_X12_bells_2Q AS_X12_bells_2Q σ τ89 := Fr.call (g87) f91 (by decide)
            show MW p l e _ s m args below meth c _ 14 G 0 0 241 [some (.ref (G.1 22 0)), some (.int a1), some (.int 2), some (.int a3), some (.int 4), some (.int y5), some (.int y6), some (.int y7), some (.int x68), some (.int 2), some (.int x80), some (.int 0), some (.int 0), some (.int x64)] [.int x92] τ89
            refine m_istore (L1 := [some (.ref (G.1 22 0)), some (.int a1), some (.int 2), some (.int a3), some (.int 4), some (.int y5), some (.int y6), some (.int y7), some (.int x68), some (.int 2), some (.int x80), some (.int x92), some (.int 0), some (.int x64)]) C dX12_bells_241 (by decide) rfl rfl ?_
            obtain ⟨x96, ex96⟩ : ∃ y : Int32, y = 0 + 1 := ⟨_, rfl⟩
            have b97 : IV x96 1 1 := by rw [ex96]; decide
            have tx96 : x96.toInt = 1 := by rw [ex96]; decide
            obtain rfl : x96 = 1 := by rw [ex96]; decide
            refine m_iinc (v := 1) (L1 := [some (.ref (G.1 22 0)), some (.int a1), some (.int 2), some (.int a3), some (.int 4), some (.int y5), some (.int y6), some (.int y7), some (.int x68), some (.int 2), some (.int x80), some (.int x92), some (.int 1), some (.int x64)]) C dX12_bells_243 rfl (by decide) (by decide) rfl rfl ?_
            refine m_goto (tgt := 161) C dX12_bells_246 (by decide) ?_
            refine m_iload C dX12_bells_161 rfl ?_
            refine m_iload_n C dX12_bells_163 rfl rfl ?_
            refine m_icmp_ge (tgt := 249) C dX12_bells_164 (by decide) (fun c98 => ?_) (fun c98 => ?_)
            · first | exact absurd c98 (by decide) | exact absurd (by decide) c98
            · have f100 : 1 < 2 := by
                have q : _ := c98
                simp only [ti_nle, ti_nlt, ti_le, ti_lt, ti_eq, ti_ne, Classical.not_not, kt_1, kt_2] at q
                omega
              refine m_iload C dX12_bells_167 rfl ?_
              refine m_iload_n C dX12_bells_169 rfl rfl ?_
              refine m_idiv C dX12_bells_170 (iv_nz kc_2 (by decide)) ?_
              refine m_topi (fun x101 ex101 => ?_)
              have b102 : IV x101 1 1 := by rw [ex101]; decide
              have tx101 : x101.toInt = 1 := by rw [ex101]; decide
              obtain rfl : x101 = 1 := by rw [ex101]; decide
              refine m_istore (L1 := [some (.ref (G.1 22 0)), some (.int a1), some (.int 2), some (.int a3), some (.int 4), some (.int y5), some (.int y6), some (.int y7), some (.int x68), some (.int 1), some (.int x80), some (.int x92), some (.int 1), some (.int x64)]) C dX12_bells_171 (by decide) rfl rfl ?_
              refine m_iload C dX12_bells_173 rfl ?_
              refine m_iload C dX12_bells_175 rfl ?_
              refine m_idiv C dX12_bells_177 (iv_nz kc_1 (by decide)) ?_
              refine m_topi (fun x103 ex103 => ?_)
              have b104 : IV x103 0 3 := by rw [ex103]; exact iv_div b56 kc_1 (by decide)
              refine m_iload_n C dX12_bells_178 rfl rfl ?_
              refine m_irem C dX12_bells_179 (iv_nz kc_2 (by decide)) ?_
              refine m_topi (fun x105 ex105 => ?_)
              have b106 : IV x105 0 1 := by rw [ex105]; exact iv_rem b104 kc_2 (by decide)
              refine m_istore (L1 := [some (.ref (G.1 22 0)), some (.int a1), some (.int 2), some (.int a3), some (.int 4), some (.int y5), some (.int y6), some (.int y7), some (.int x68), some (.int 1), some (.int x80), some (.int x92), some (.int 1), some (.int x105)]) C dX12_bells_180 (by decide) rfl rfl ?_
              refine m_iload C dX12_bells_182 rfl ?_
              refine m_iconst (v := 1) C dX12_bells_184 (by decide) ?_
              refine m_iload C dX12_bells_185 rfl ?_
              refine m_ishl C dX12_bells_187 ?_
              refine m_topi (fun x107 ex107 => ?_)
              have b108 : IV x107 1 2 := by rw [ex107]; exact iv_shl1 b106 (by decide)
              refine m_ior C dX12_bells_188 ?_
              refine m_topi (fun x109 ex109 => ?_)
              have b110 : IV x109 0 3 := by rw [ex109]; exact iv_or 2 b69 b108 (by decide)
              refine m_istore (L1 := [some (.ref (G.1 22 0)), some (.int a1), some (.int 2), some (.int a3), some (.int 4), some (.int y5), some (.int y6), some (.int y7), some (.int x109), some (.int 1), some (.int x80), some (.int x92), some (.int 1), some (.int x105)]) C dX12_bells_189 (by decide) rfl rfl ?_
              refine m_iload C dX12_bells_191 rfl ?_
              refine m_iload C dX12_bells_193 rfl ?_
              refine m_iconst (v := 2) C dX12_bells_195 (by decide) ?_
              refine m_irem C dX12_bells_196 (iv_nz kc_2 (by decide)) ?_
              refine m_topi (fun x111 ex111 => ?_)
              have b112 : IV x111 1 1 := by rw [ex111]; decide
              have tx111 : x111.toInt = 1 := by rw [ex111]; decide
              obtain rfl : x111 = 1 := by rw [ex111]; decide
              refine m_if_ne (tgt := 215) C dX12_bells_197 (by decide) (fun c113 => ?_) (fun c113 => ?_)
              · have f114 : 1 ≠ 0 := by
                  have q : _ := c113
                  simp only [ti_nle, ti_nlt, ti_le, ti_lt, ti_eq, ti_ne, Classical.not_not, kt_1, kt_0] at q
                  omega
                refine m_aload_n C dX12_bells_215 rfl rfl ?_
                refine g_22_2 C q4_118 dX12_bells_216 ?_
                refine m_bipush (v := 40) C dX12_bells_219 (by decide) ?_
                refine m_iload_n C dX12_bells_221 rfl rfl ?_
                refine m_imul C dX12_bells_222 ?_
                refine m_topi (fun x115 ex115 => ?_)
                have tx115 : x115.toInt = 40 * a1.toInt := by rw [ex115, ti_mulv kc_40 b_a1 (by decide), kt_40]
                have b116 : IV x115 0 280 := by rw [ex115]; exact iv_mul kc_40 b_a1 (by decide)
                refine m_iload C dX12_bells_223 rfl ?_
                refine m_iadd C dX12_bells_225 ?_
                refine m_topi (fun x117 ex117 => ?_)
                have tx117 : x117.toInt = x115.toInt + x105.toInt := by rw [ex117, ti_addv b116 b106 (by decide)]
                have b118 : IV x117 0 281 := by rw [ex117]; exact iv_add b116 b106 (by decide)
                refine al_25 C b118 (by decide) rfl dX12_bells_226 ?_
                refine m_topi (fun x119 ex119 => ?_)
                refine m_ineg C dX12_bells_227 ?_
                refine m_topi (fun x120 ex120 => ?_)
                refine m_iadd C dX12_bells_228 ?_
                refine m_topi (fun x121 ex121 => ?_)
                refine m_istore (L1 := [some (.ref (G.1 22 0)), some (.int a1), some (.int 2), some (.int a3), some (.int 4), some (.int y5), some (.int y6), some (.int y7), some (.int x109), some (.int 1), some (.int x121), some (.int x92), some (.int 1), some (.int x105)]) C dX12_bells_229 (by decide) rfl rfl ?_
                refine m_iload C dX12_bells_231 rfl ?_
                refine m_iload C dX12_bells_233 rfl ?_
                refine m_callS (n := 1) (st := [.int x92]) C (c_X12_sizeOf l G τ89 (x121) i90 ) q5_96 q5_94 q5_95 q1_7 (by decide +kernel) rfl (by decide) (by decide) rfl (Nat.le_of_ble_eq_true rfl) dX12_bells_235 ?_
                rintro _ τ122 ⟨x125, rfl, i123, f124, b126⟩
                have g127 : Fr MS_X12_bells_2Q AS_X12_bells_2Q σ τ122 := Fr.call (g94) f124 (by decide)
                show MW p l e _ s m args below meth c _ 14 G 0 0 238 [some (.ref (G.1 22 0)), some (.int a1), some (.int 2), some (.int a3), some (.int 4), some (.int y5), some (.int y6), some (.int y7), some (.int x109), some (.int 1), some (.int x121), some (.int x92), some (.int 1), some (.int x105)] [.int x125, .int x92] τ122
                refine m_callS (n := 2) (st := []) C (c_X12_greater l G τ122 (x92) (x125) i123 ) q5_99 q5_97 q5_98 q1_7 (by decide +kernel) rfl (by decide) (by decide) rfl (Nat.le_of_ble_eq_true rfl) dX12_bells_238 ?_
                rintro _ τ129 ⟨x132, rfl, i130, f131, b133⟩
                have g134 : Fr MS_X12_bells_2Q AS_X12_bells_2Q σ τ129 := Fr.call (g127) f131 (by decide)
                show MW p l e _ s m args below meth c _ 14 G 0 0 241 [some (.ref (G.1 22 0)), some (.int a1), some (.int 2), some (.int a3), some (.int 4), some (.int y5), some (.int y6), some (.int y7), some (.int x109), some (.int 1), some (.int x121), some (.int x92), some (.int 1), some (.int x105)] [.int x132] τ129
                refine m_istore (L1 := [some (.ref (G.1 22 0)), some (.int a1), some (.int 2), some (.int a3), some (.int 4), some (.int y5), some (.int y6), some (.int y7), some (.int x109), some (.int 1), some (.int x121), some (.int x132), some (.int 1), some (.int x105)]) C dX12_bells_241 (by decide) rfl rfl ?_
                obtain ⟨x136, ex136⟩ : ∃ y : Int32, y = 1 + 1 := ⟨_, rfl⟩
                have b137 : IV x136 2 2 := by rw [ex136]; decide
                have tx136 : x136.toInt = 2 := by rw [ex136]; decide
                obtain rfl : x136 = 2 := by rw [ex136]; decide
                refine m_iinc (v := 2) (L1 := [some (.ref (G.1 22 0)), some (.int a1), some (.int 2), some (.int a3), some (.int 4), some (.int y5), some (.int y6), some (.int y7), some (.int x109), some (.int 1), some (.int x121), some (.int x132), some (.int 2), some (.int x105)]) C dX12_bells_243 rfl (by decide) (by decide) rfl rfl ?_
                refine m_goto (tgt := 161) C dX12_bells_246 (by decide) ?_
                refine m_iload C dX12_bells_161 rfl ?_
                refine m_iload_n C dX12_bells_163 rfl rfl ?_
                refine m_icmp_ge (tgt := 249) C dX12_bells_164 (by decide) (fun c138 => ?_) (fun c138 => ?_)
                · have f139 : 2 ≤ 2 := by
                    have q : _ := c138
                    simp only [ti_nle, ti_nlt, ti_le, ti_lt, ti_eq, ti_ne, Classical.not_not, kt_2, kt_2] at q
                    omega
                  refine m_iload C dX12_bells_249 rfl ?_
                  refine m_iconst (v := 1) C dX12_bells_251 (by decide) ?_
                  refine m_iload_n C dX12_bells_252 rfl rfl ?_
                  refine m_ishl C dX12_bells_253 ?_
                  refine m_topi (fun x140 ex140 => ?_)
                  have b141 : IV x140 4 4 := by rw [ex140]; decide
                  have tx140 : x140.toInt = 4 := by rw [ex140]; decide
                  obtain rfl : x140 = 4 := by rw [ex140]; decide
                  refine m_iconst (v := 1) C dX12_bells_254 (by decide) ?_
                  refine m_isub C dX12_bells_255 ?_
                  refine m_topi (fun x142 ex142 => ?_)
                  have b143 : IV x142 3 3 := by rw [ex142]; decide
                  have tx142 : x142.toInt = 3 := by rw [ex142]; decide
                  obtain rfl : x142 = 3 := by rw [ex142]; decide
                  refine m_icmp_ne (tgt := 279) C dX12_bells_256 (by decide) (fun c144 => ?_) (fun c144 => ?_)
                  · have f145 : x109.toInt ≠ 3 := by
                      have q : _ := c144
                      simp only [ti_nle, ti_nlt, ti_le, ti_lt, ti_eq, ti_ne, Classical.not_not, kt_3] at q
                      omega
                    have b146 : IV x109 0 2 := ⟨by have q1 := b110; have q2 := kc_3; omega, by have q1 := b110; have q2 := kc_3; omega⟩
                    obtain ⟨x147, ex147⟩ : ∃ y : Int32, y = y7 + 1 := ⟨_, rfl⟩
                    have tx147 : x147.toInt = y7.toInt + 1 := by rw [ex147, ti_addv b56 kc_1 (by decide), kt_1]
                    have b148 : IV x147 1 4 := by rw [ex147]; exact iv_add b56 kc_1 (by decide)
                    refine m_iinc (v := x147) (L1 := [some (.ref (G.1 22 0)), some (.int a1), some (.int 2), some (.int a3), some (.int 4), some (.int y5), some (.int y6), some (.int x147), some (.int x109), some (.int 1), some (.int x121), some (.int x132), some (.int 2), some (.int x105)]) C dX12_bells_279 rfl (by rw [ex147]; rfl) (by decide) rfl rfl ?_
                    refine m_goto (tgt := 138) C dX12_bells_282 (by decide) ?_
                    refine m_sub (L1 := [some (.ref (G.1 22 0)), some (.int a1), some (.int 2), some (.int a3), some (.int 4), some (.int y5), some (.int y6), some (.int x147), none, none, none, none, none, none]) ⟨rfl, ⟨rfl, ⟨rfl, ⟨rfl, ⟨rfl, ⟨rfl, ⟨rfl, ⟨rfl, trivial⟩⟩⟩⟩⟩⟩⟩⟩ ?_
                    have q149 : (gV τ129 22 0 8).toInt = (gV τ 22 0 8).toInt := congrArg Int32.toInt (show (gV τ129 22 0 8) = (gV τ 22 0 8) from (show gV τ129 22 0 8 = (gV τ 22 0 8) from (f131.1 22 0 (8) (by decide) (by decide)).trans (show gV τ122 22 0 8 = (gV τ 22 0 8) from (f124.1 22 0 (8) (by decide) (by decide)).trans (show gV τ89 22 0 8 = (gV τ 22 0 8) from (f91.1 22 0 (8) (by decide) (by decide)).trans (show gV τ82 22 0 8 = (gV τ 22 0 8) from (f84.1 22 0 (8) (by decide) (by decide)).trans rfl)))))
                    have q150 : (gV τ129 26 0 (a1.toInt.toNat)).toInt = (gV τ 26 0 (a1.toInt.toNat)).toInt := congrArg Int32.toInt (show (gV τ129 26 0 (a1.toInt.toNat)) = (gV τ 26 0 (a1.toInt.toNat)) from (show gV τ129 26 0 (a1.toInt.toNat) = (gV τ 26 0 (a1.toInt.toNat)) from (f131.1 26 0 ((a1.toInt.toNat)) (by simp) (by decide)).trans (show gV τ122 26 0 (a1.toInt.toNat) = (gV τ 26 0 (a1.toInt.toNat)) from (f124.1 26 0 ((a1.toInt.toNat)) (by simp) (by decide)).trans (show gV τ89 26 0 (a1.toInt.toNat) = (gV τ 26 0 (a1.toInt.toNat)) from (f91.1 26 0 ((a1.toInt.toNat)) (by simp) (by decide)).trans (show gV τ82 26 0 (a1.toInt.toNat) = (gV τ 26 0 (a1.toInt.toNat)) from (f84.1 26 0 ((a1.toInt.toNat)) (by simp) (by decide)).trans rfl)))))
                    have q151 : (gV τ129 27 0 (a1.toInt.toNat)).toInt = (gV τ 27 0 (a1.toInt.toNat)).toInt := congrArg Int32.toInt (show (gV τ129 27 0 (a1.toInt.toNat)) = (gV τ 27 0 (a1.toInt.toNat)) from (show gV τ129 27 0 (a1.toInt.toNat) = (gV τ 27 0 (a1.toInt.toNat)) from (f131.1 27 0 ((a1.toInt.toNat)) (by simp) (by decide)).trans (show gV τ122 27 0 (a1.toInt.toNat) = (gV τ 27 0 (a1.toInt.toNat)) from (f124.1 27 0 ((a1.toInt.toNat)) (by simp) (by decide)).trans (show gV τ89 27 0 (a1.toInt.toNat) = (gV τ 27 0 (a1.toInt.toNat)) from (f91.1 27 0 ((a1.toInt.toNat)) (by simp) (by decide)).trans (show gV τ82 27 0 (a1.toInt.toNat) = (gV τ 27 0 (a1.toInt.toNat)) from (f84.1 27 0 ((a1.toInt.toNat)) (by simp) (by decide)).trans rfl)))))
                    exact ih138 τ129 y5 y6 x147 i130 g134 b_a1 b_a3 b_y5 b_y6 (iv_wk b148 (by decide)) (by omega) (by omega) nL (by have q := hm138; omega)
                  · have f152 : x109.toInt = 3 := by
                      have q : _ := c144
                      simp only [ti_nle, ti_nlt, ti_le, ti_lt, ti_eq, ti_ne, Classical.not_not, kt_3] at q
                      omega
                    have b153 : IV x109 3 3 := ⟨by have q1 := b110; have q2 := kc_3; omega, by have q1 := b110; have q2 := kc_3; omega⟩
                    refine m_iload C dX12_bells_259 rfl ?_
                    refine m_if_lt (tgt := 271) C dX12_bells_261 (by decide) (fun c154 => ?_) (fun c154 => ?_)
                    · have f155 : y5.toInt < 0 := by
                        have q : _ := c154
                        simp only [ti_nle, ti_nlt, ti_le, ti_lt, ti_eq, ti_ne, Classical.not_not, kt_0] at q
                        omega
                      have b156 : IV y5 (-1) (-1) := ⟨by have q1 := b_y5; have q2 := kc_0; omega, by have q1 := b_y5; have q2 := kc_0; omega⟩
                      refine m_iload C dX12_bells_271 rfl ?_
                      refine m_istore (L1 := [some (.ref (G.1 22 0)), some (.int a1), some (.int 2), some (.int a3), some (.int 4), some (.int y7), some (.int y6), some (.int y7), some (.int x109), some (.int 1), some (.int x121), some (.int x132), some (.int 2), some (.int x105)]) C dX12_bells_273 (by decide) rfl rfl ?_
                      refine m_iload C dX12_bells_275 rfl ?_
                      refine m_istore (L1 := [some (.ref (G.1 22 0)), some (.int a1), some (.int 2), some (.int a3), some (.int 4), some (.int y7), some (.int x132), some (.int y7), some (.int x109), some (.int 1), some (.int x121), some (.int x132), some (.int 2), some (.int x105)]) C dX12_bells_277 (by decide) rfl rfl ?_
                      obtain ⟨x157, ex157⟩ : ∃ y : Int32, y = y7 + 1 := ⟨_, rfl⟩
                      have tx157 : x157.toInt = y7.toInt + 1 := by rw [ex157, ti_addv b56 kc_1 (by decide), kt_1]
                      have b158 : IV x157 1 4 := by rw [ex157]; exact iv_add b56 kc_1 (by decide)
                      refine m_iinc (v := x157) (L1 := [some (.ref (G.1 22 0)), some (.int a1), some (.int 2), some (.int a3), some (.int 4), some (.int y7), some (.int x132), some (.int x157), some (.int x109), some (.int 1), some (.int x121), some (.int x132), some (.int 2), some (.int x105)]) C dX12_bells_279 rfl (by rw [ex157]; rfl) (by decide) rfl rfl ?_
                      refine m_goto (tgt := 138) C dX12_bells_282 (by decide) ?_
                      refine m_sub (L1 := [some (.ref (G.1 22 0)), some (.int a1), some (.int 2), some (.int a3), some (.int 4), some (.int y7), some (.int x132), some (.int x157), none, none, none, none, none, none]) ⟨rfl, ⟨rfl, ⟨rfl, ⟨rfl, ⟨rfl, ⟨rfl, ⟨rfl, ⟨rfl, trivial⟩⟩⟩⟩⟩⟩⟩⟩ ?_
                      have q159 : (gV τ129 22 0 8).toInt = (gV τ 22 0 8).toInt := congrArg Int32.toInt (show (gV τ129 22 0 8) = (gV τ 22 0 8) from (show gV τ129 22 0 8 = (gV τ 22 0 8) from (f131.1 22 0 (8) (by decide) (by decide)).trans (show gV τ122 22 0 8 = (gV τ 22 0 8) from (f124.1 22 0 (8) (by decide) (by decide)).trans (show gV τ89 22 0 8 = (gV τ 22 0 8) from (f91.1 22 0 (8) (by decide) (by decide)).trans (show gV τ82 22 0 8 = (gV τ 22 0 8) from (f84.1 22 0 (8) (by decide) (by decide)).trans rfl)))))
                      have q160 : (gV τ129 26 0 (a1.toInt.toNat)).toInt = (gV τ 26 0 (a1.toInt.toNat)).toInt := congrArg Int32.toInt (show (gV τ129 26 0 (a1.toInt.toNat)) = (gV τ 26 0 (a1.toInt.toNat)) from (show gV τ129 26 0 (a1.toInt.toNat) = (gV τ 26 0 (a1.toInt.toNat)) from (f131.1 26 0 ((a1.toInt.toNat)) (by simp) (by decide)).trans (show gV τ122 26 0 (a1.toInt.toNat) = (gV τ 26 0 (a1.toInt.toNat)) from (f124.1 26 0 ((a1.toInt.toNat)) (by simp) (by decide)).trans (show gV τ89 26 0 (a1.toInt.toNat) = (gV τ 26 0 (a1.toInt.toNat)) from (f91.1 26 0 ((a1.toInt.toNat)) (by simp) (by decide)).trans (show gV τ82 26 0 (a1.toInt.toNat) = (gV τ 26 0 (a1.toInt.toNat)) from (f84.1 26 0 ((a1.toInt.toNat)) (by simp) (by decide)).trans rfl)))))
                      have q161 : (gV τ129 27 0 (a1.toInt.toNat)).toInt = (gV τ 27 0 (a1.toInt.toNat)).toInt := congrArg Int32.toInt (show (gV τ129 27 0 (a1.toInt.toNat)) = (gV τ 27 0 (a1.toInt.toNat)) from (show gV τ129 27 0 (a1.toInt.toNat) = (gV τ 27 0 (a1.toInt.toNat)) from (f131.1 27 0 ((a1.toInt.toNat)) (by simp) (by decide)).trans (show gV τ122 27 0 (a1.toInt.toNat) = (gV τ 27 0 (a1.toInt.toNat)) from (f124.1 27 0 ((a1.toInt.toNat)) (by simp) (by decide)).trans (show gV τ89 27 0 (a1.toInt.toNat) = (gV τ 27 0 (a1.toInt.toNat)) from (f91.1 27 0 ((a1.toInt.toNat)) (by simp) (by decide)).trans (show gV τ82 27 0 (a1.toInt.toNat) = (gV τ 27 0 (a1.toInt.toNat)) from (f84.1 27 0 ((a1.toInt.toNat)) (by simp) (by decide)).trans rfl)))))
                      exact ih138 τ129 y7 x132 x157 i130 g134 b_a1 b_a3 (iv_wk b56 (by decide)) b133 (iv_wk b158 (by decide)) (by omega) (by omega) nL (by have q := hm138; omega)
                    · have f162 : 0 ≤ y5.toInt := by
                        have q : _ := c154
                        simp only [ti_nle, ti_nlt, ti_le, ti_lt, ti_eq, ti_ne, Classical.not_not, kt_0] at q
                        omega
                      have b163 : IV y5 0 3 := ⟨by have q1 := kc_0; have q2 := b_y5; omega, by have q1 := kc_0; have q2 := b_y5; omega⟩
                      refine m_iload C dX12_bells_264 rfl ?_
                      refine m_iload C dX12_bells_266 rfl ?_
                      refine m_icmp_ge (tgt := 279) C dX12_bells_268 (by decide) (fun c164 => ?_) (fun c164 => ?_)
                      · have f165 : y6.toInt ≤ x132.toInt := by
                          have q : _ := c164
                          simp only [ti_nle, ti_nlt, ti_le, ti_lt, ti_eq, ti_ne, Classical.not_not] at q
                          omega
                        obtain ⟨x166, ex166⟩ : ∃ y : Int32, y = y7 + 1 := ⟨_, rfl⟩
                        have tx166 : x166.toInt = y7.toInt + 1 := by rw [ex166, ti_addv b56 kc_1 (by decide), kt_1]
                        have b167 : IV x166 1 4 := by rw [ex166]; exact iv_add b56 kc_1 (by decide)
                        refine m_iinc (v := x166) (L1 := [some (.ref (G.1 22 0)), some (.int a1), some (.int 2), some (.int a3), some (.int 4), some (.int y5), some (.int y6), some (.int x166), some (.int x109), some (.int 1), some (.int x121), some (.int x132), some (.int 2), some (.int x105)]) C dX12_bells_279 rfl (by rw [ex166]; rfl) (by decide) rfl rfl ?_
                        refine m_goto (tgt := 138) C dX12_bells_282 (by decide) ?_
                        refine m_sub (L1 := [some (.ref (G.1 22 0)), some (.int a1), some (.int 2), some (.int a3), some (.int 4), some (.int y5), some (.int y6), some (.int x166), none, none, none, none, none, none]) ⟨rfl, ⟨rfl, ⟨rfl, ⟨rfl, ⟨rfl, ⟨rfl, ⟨rfl, ⟨rfl, trivial⟩⟩⟩⟩⟩⟩⟩⟩ ?_
                        have q168 : (gV τ129 22 0 8).toInt = (gV τ 22 0 8).toInt := congrArg Int32.toInt (show (gV τ129 22 0 8) = (gV τ 22 0 8) from (show gV τ129 22 0 8 = (gV τ 22 0 8) from (f131.1 22 0 (8) (by decide) (by decide)).trans (show gV τ122 22 0 8 = (gV τ 22 0 8) from (f124.1 22 0 (8) (by decide) (by decide)).trans (show gV τ89 22 0 8 = (gV τ 22 0 8) from (f91.1 22 0 (8) (by decide) (by decide)).trans (show gV τ82 22 0 8 = (gV τ 22 0 8) from (f84.1 22 0 (8) (by decide) (by decide)).trans rfl)))))
                        have q169 : (gV τ129 26 0 (a1.toInt.toNat)).toInt = (gV τ 26 0 (a1.toInt.toNat)).toInt := congrArg Int32.toInt (show (gV τ129 26 0 (a1.toInt.toNat)) = (gV τ 26 0 (a1.toInt.toNat)) from (show gV τ129 26 0 (a1.toInt.toNat) = (gV τ 26 0 (a1.toInt.toNat)) from (f131.1 26 0 ((a1.toInt.toNat)) (by simp) (by decide)).trans (show gV τ122 26 0 (a1.toInt.toNat) = (gV τ 26 0 (a1.toInt.toNat)) from (f124.1 26 0 ((a1.toInt.toNat)) (by simp) (by decide)).trans (show gV τ89 26 0 (a1.toInt.toNat) = (gV τ 26 0 (a1.toInt.toNat)) from (f91.1 26 0 ((a1.toInt.toNat)) (by simp) (by decide)).trans (show gV τ82 26 0 (a1.toInt.toNat) = (gV τ 26 0 (a1.toInt.toNat)) from (f84.1 26 0 ((a1.toInt.toNat)) (by simp) (by decide)).trans rfl)))))
                        have q170 : (gV τ129 27 0 (a1.toInt.toNat)).toInt = (gV τ 27 0 (a1.toInt.toNat)).toInt := congrArg Int32.toInt (show (gV τ129 27 0 (a1.toInt.toNat)) = (gV τ 27 0 (a1.toInt.toNat)) from (show gV τ129 27 0 (a1.toInt.toNat) = (gV τ 27 0 (a1.toInt.toNat)) from (f131.1 27 0 ((a1.toInt.toNat)) (by simp) (by decide)).trans (show gV τ122 27 0 (a1.toInt.toNat) = (gV τ 27 0 (a1.toInt.toNat)) from (f124.1 27 0 ((a1.toInt.toNat)) (by simp) (by decide)).trans (show gV τ89 27 0 (a1.toInt.toNat) = (gV τ 27 0 (a1.toInt.toNat)) from (f91.1 27 0 ((a1.toInt.toNat)) (by simp) (by decide)).trans (show gV τ82 27 0 (a1.toInt.toNat) = (gV τ 27 0 (a1.toInt.toNat)) from (f84.1 27 0 ((a1.toInt.toNat)) (by simp) (by decide)).trans rfl)))))
                        exact ih138 τ129 y5 y6 x166 i130 g134 b_a1 b_a3 (iv_wk b163 (by decide)) b_y6 (iv_wk b167 (by decide)) (by omega) (by omega) nL (by have q := hm138; omega)
                      · have f171 : x132.toInt < y6.toInt := by
                          have q : _ := c164
                          simp only [ti_nle, ti_nlt, ti_le, ti_lt, ti_eq, ti_ne, Classical.not_not] at q
                          omega
                        have b172 : IV x132 (-2147483648) 2147483646 := ⟨by have q1 := b133; have q2 := b_y6; omega, by have q1 := b133; have q2 := b_y6; omega⟩
                        have b173 : IV y6 (-2147483647) 2147483647 := ⟨by have q1 := b133; have q2 := b_y6; omega, by have q1 := b133; have q2 := b_y6; omega⟩
                        refine m_iload C dX12_bells_271 rfl ?_
                        refine m_istore (L1 := [some (.ref (G.1 22 0)), some (.int a1), some (.int 2), some (.int a3), some (.int 4), some (.int y7), some (.int y6), some (.int y7), some (.int x109), some (.int 1), some (.int x121), some (.int x132), some (.int 2), some (.int x105)]) C dX12_bells_273 (by decide) rfl rfl ?_
                        refine m_iload C dX12_bells_275 rfl ?_
                        refine m_istore (L1 := [some (.ref (G.1 22 0)), some (.int a1), some (.int 2), some (.int a3), some (.int 4), some (.int y7), some (.int x132), some (.int y7), some (.int x109), some (.int 1), some (.int x121), some (.int x132), some (.int 2), some (.int x105)]) C dX12_bells_277 (by decide) rfl rfl ?_
                        obtain ⟨x174, ex174⟩ : ∃ y : Int32, y = y7 + 1 := ⟨_, rfl⟩
                        have tx174 : x174.toInt = y7.toInt + 1 := by rw [ex174, ti_addv b56 kc_1 (by decide), kt_1]
                        have b175 : IV x174 1 4 := by rw [ex174]; exact iv_add b56 kc_1 (by decide)
                        refine m_iinc (v := x174) (L1 := [some (.ref (G.1 22 0)), some (.int a1), some (.int 2), some (.int a3), some (.int 4), some (.int y7), some (.int x132), some (.int x174), some (.int x109), some (.int 1), some (.int x121), some (.int x132), some (.int 2), some (.int x105)]) C dX12_bells_279 rfl (by rw [ex174]; rfl) (by decide) rfl rfl ?_
                        refine m_goto (tgt := 138) C dX12_bells_282 (by decide) ?_
                        refine m_sub (L1 := [some (.ref (G.1 22 0)), some (.int a1), some (.int 2), some (.int a3), some (.int 4), some (.int y7), some (.int x132), some (.int x174), none, none, none, none, none, none]) ⟨rfl, ⟨rfl, ⟨rfl, ⟨rfl, ⟨rfl, ⟨rfl, ⟨rfl, ⟨rfl, trivial⟩⟩⟩⟩⟩⟩⟩⟩ ?_
                        have q176 : (gV τ129 22 0 8).toInt = (gV τ 22 0 8).toInt := congrArg Int32.toInt (show (gV τ129 22 0 8) = (gV τ 22 0 8) from (show gV τ129 22 0 8 = (gV τ 22 0 8) from (f131.1 22 0 (8) (by decide) (by decide)).trans (show gV τ122 22 0 8 = (gV τ 22 0 8) from (f124.1 22 0 (8) (by decide) (by decide)).trans (show gV τ89 22 0 8 = (gV τ 22 0 8) from (f91.1 22 0 (8) (by decide) (by decide)).trans (show gV τ82 22 0 8 = (gV τ 22 0 8) from (f84.1 22 0 (8) (by decide) (by decide)).trans rfl)))))
                        have q177 : (gV τ129 26 0 (a1.toInt.toNat)).toInt = (gV τ 26 0 (a1.toInt.toNat)).toInt := congrArg Int32.toInt (show (gV τ129 26 0 (a1.toInt.toNat)) = (gV τ 26 0 (a1.toInt.toNat)) from (show gV τ129 26 0 (a1.toInt.toNat) = (gV τ 26 0 (a1.toInt.toNat)) from (f131.1 26 0 ((a1.toInt.toNat)) (by simp) (by decide)).trans (show gV τ122 26 0 (a1.toInt.toNat) = (gV τ 26 0 (a1.toInt.toNat)) from (f124.1 26 0 ((a1.toInt.toNat)) (by simp) (by decide)).trans (show gV τ89 26 0 (a1.toInt.toNat) = (gV τ 26 0 (a1.toInt.toNat)) from (f91.1 26 0 ((a1.toInt.toNat)) (by simp) (by decide)).trans (show gV τ82 26 0 (a1.toInt.toNat) = (gV τ 26 0 (a1.toInt.toNat)) from (f84.1 26 0 ((a1.toInt.toNat)) (by simp) (by decide)).trans rfl)))))
                        have q178 : (gV τ129 27 0 (a1.toInt.toNat)).toInt = (gV τ 27 0 (a1.toInt.toNat)).toInt := congrArg Int32.toInt (show (gV τ129 27 0 (a1.toInt.toNat)) = (gV τ 27 0 (a1.toInt.toNat)) from (show gV τ129 27 0 (a1.toInt.toNat) = (gV τ 27 0 (a1.toInt.toNat)) from (f131.1 27 0 ((a1.toInt.toNat)) (by simp) (by decide)).trans (show gV τ122 27 0 (a1.toInt.toNat) = (gV τ 27 0 (a1.toInt.toNat)) from (f124.1 27 0 ((a1.toInt.toNat)) (by simp) (by decide)).trans (show gV τ89 27 0 (a1.toInt.toNat) = (gV τ 27 0 (a1.toInt.toNat)) from (f91.1 27 0 ((a1.toInt.toNat)) (by simp) (by decide)).trans (show gV τ82 27 0 (a1.toInt.toNat) = (gV τ 27 0 (a1.toInt.toNat)) from (f84.1 27 0 ((a1.toInt.toNat)) (by simp) (by decide)).trans rfl)))))
                        exact ih138 τ129 y7 x132 x174 i130 g134 b_a1 b_a3 (iv_wk b56 (by decide)) (iv_wk b172 (by decide)) (iv_wk b175 (by decide)) (by omega) (by omega) nL (by have q := hm138; omega)
                · first | exact absurd c138 (by decide) | exact absurd (by decide) c138
              · first | exact absurd c113 (by decide) | exact absurd (by decide) c113
  have J61 : ∀ (n : Nat) (τ : Sg) (y4 : Int32), Inv τ → Fr MS_X12_bells_2Q AS_X12_bells_2Q σ τ → IV a1 0 7 → IV a3 (-1) 2147483647 → IV y4 0 2 → (((0 ≤ a1.toInt ∧ a1.toInt ≤ 7) ∧ 1 ≤ 2 ∧ 2 ≤ 5 ∧ -1 ≤ a3.toInt ∧ 0 ≤ (gV σ 26 0 (a1.toInt.toNat)).toInt ∧ 2 ≤ (gV σ 27 0 (a1.toInt.toNat)).toInt)) → ((gV τ 22 0 8).toInt = (gV σ 22 0 8).toInt) → (AlJ σ (a1.toInt.toNat) y4.toInt 1 20) → (2 - y4.toInt).toNat < n → MW p l e { frames := 2, cells := 0, slots := 0, locals := 60 } s m args below meth c (MQ below (QP G (PI fun r τ => Inv τ ∧ Fr MS_X12_bells_2Q AS_X12_bells_2Q σ τ ∧ IV r (-2147483648) 2147483647 ∧ BLM σ τ a1 a3 2)) args s 0 0 (aG G)) 14 G 0 0 61 [some (.ref (G.1 22 0)), some (.int a1), some (.int 2), some (.int a3), some (.int y4), none, none, none, none, none, none, none, none, none] [] τ := by
    intro n
    induction n with
    | zero => intro τ y4 iτ fτ b_a1 b_a3 b_y4 n181 n182 nL hm; exact absurd hm (Nat.not_lt_zero _)
    | succ n ih61 =>
      intro τ y4 iτ fτ b_a1 b_a3 b_y4 n181 n182 nL hm61
      have u183 : IV (gV τ 27 0 (a1.toInt.toNat)) 0 40 := iτ.1 27 0 (a1.toInt.toNat)
      refine m_iload C dX12_bells_61 rfl ?_
      refine m_iload_n C dX12_bells_63 rfl rfl ?_
      refine m_icmp_ge (tgt := 99) C dX12_bells_64 (by decide) (fun c184 => ?_) (fun c184 => ?_)
      · have f185 : 2 ≤ y4.toInt := by
          have q : _ := c184
          simp only [ti_nle, ti_nlt, ti_le, ti_lt, ti_eq, ti_ne, Classical.not_not, kt_2] at q
          omega
        have b186 : IV y4 2 2 := ⟨by have q1 := kc_2; have q2 := b_y4; omega, by have q1 := kc_2; have q2 := b_y4; omega⟩
        refine m_aload_n C dX12_bells_99 rfl rfl ?_
        refine m_iconst (v := 0) C dX12_bells_100 (by decide) ?_
        have q187 := kt_0
        refine m_callV (n := 1) (ci := 11) (st := []) C (c_X12_fineQ l G τ (0) iτ ) (by decide) (by decide) rfl rfl rfl q4_201 q4_198 q4_200 q0_27 q1_7 (by decide +kernel) rfl (by decide) (by decide) rfl (Nat.le_of_ble_eq_true rfl) dX12_bells_101 ?_
        rintro _ τ188 ⟨x191, rfl, i189, f190, b192, h194⟩
        have g193 : Fr MS_X12_bells_2Q AS_X12_bells_2Q σ τ188 := Fr.call (fτ) f190 (by decide)
        have q195 : (gV τ188 26 0 (a1.toInt.toNat)).toInt = (gV τ 26 0 (a1.toInt.toNat)).toInt := congrArg Int32.toInt (show (gV τ188 26 0 (a1.toInt.toNat)) = (gV τ 26 0 (a1.toInt.toNat)) from (show gV τ188 26 0 (a1.toInt.toNat) = (gV τ 26 0 (a1.toInt.toNat)) from (f190.1 26 0 ((a1.toInt.toNat)) (by simp) (by decide)).trans rfl))
        have q196 : (gV τ188 27 0 (a1.toInt.toNat)).toInt = (gV τ 27 0 (a1.toInt.toNat)).toInt := congrArg Int32.toInt (show (gV τ188 27 0 (a1.toInt.toNat)) = (gV τ 27 0 (a1.toInt.toNat)) from (show gV τ188 27 0 (a1.toInt.toNat) = (gV τ 27 0 (a1.toInt.toNat)) from (f190.1 27 0 ((a1.toInt.toNat)) (by simp) (by decide)).trans rfl))
        have q197 := kt_0
        show MW p l e _ s m args below meth c _ 14 G 0 0 104 [some (.ref (G.1 22 0)), some (.int a1), some (.int 2), some (.int a3), some (.int y4), none, none, none, none, none, none, none, none, none] [.int x191] τ188
        refine m_pop C dX12_bells_104 rfl ?_
        refine m_iconst (v := 1) C dX12_bells_105 (by decide) ?_
        refine m_istore (L1 := [some (.ref (G.1 22 0)), some (.int a1), some (.int 2), some (.int a3), some (.int 1), none, none, none, none, none, none, none, none, none]) C dX12_bells_106 (by decide) rfl rfl ?_
        refine m_iconst (v := 0) C dX12_bells_108 (by decide) ?_
        refine m_istore (L1 := [some (.ref (G.1 22 0)), some (.int a1), some (.int 2), some (.int a3), some (.int 1), some (.int 0), none, none, none, none, none, none, none, none]) C dX12_bells_109 (by decide) rfl rfl ?_
        refine m_iload C dX12_bells_111 rfl ?_
        refine m_iload_n C dX12_bells_113 rfl rfl ?_
        refine m_icmp_ge (tgt := 129) C dX12_bells_114 (by decide) (fun c198 => ?_) (fun c198 => ?_)
        · first | exact absurd c198 (by decide) | exact absurd (by decide) c198
        · have f200 : 0 < 2 := by
            have q : _ := c198
            simp only [ti_nle, ti_nlt, ti_le, ti_lt, ti_eq, ti_ne, Classical.not_not, kt_0, kt_2] at q
            omega
          refine m_iload C dX12_bells_117 rfl ?_
          refine m_iload_n C dX12_bells_119 rfl rfl ?_
          refine m_imul C dX12_bells_120 ?_
          refine m_topi (fun x201 ex201 => ?_)
          have b202 : IV x201 2 2 := by rw [ex201]; decide
          have tx201 : x201.toInt = 2 := by rw [ex201]; decide
          obtain rfl : x201 = 2 := by rw [ex201]; decide
          refine m_istore (L1 := [some (.ref (G.1 22 0)), some (.int a1), some (.int 2), some (.int a3), some (.int 2), some (.int 0), none, none, none, none, none, none, none, none]) C dX12_bells_121 (by decide) rfl rfl ?_
          obtain ⟨x203, ex203⟩ : ∃ y : Int32, y = 0 + 1 := ⟨_, rfl⟩
          have b204 : IV x203 1 1 := by rw [ex203]; decide
          have tx203 : x203.toInt = 1 := by rw [ex203]; decide
          obtain rfl : x203 = 1 := by rw [ex203]; decide
          refine m_iinc (v := 1) (L1 := [some (.ref (G.1 22 0)), some (.int a1), some (.int 2), some (.int a3), some (.int 2), some (.int 1), none, none, none, none, none, none, none, none]) C dX12_bells_123 rfl (by decide) (by decide) rfl rfl ?_
          refine m_goto (tgt := 111) C dX12_bells_126 (by decide) ?_
          refine m_iload C dX12_bells_111 rfl ?_
          refine m_iload_n C dX12_bells_113 rfl rfl ?_
          refine m_icmp_ge (tgt := 129) C dX12_bells_114 (by decide) (fun c205 => ?_) (fun c205 => ?_)
          · first | exact absurd c205 (by decide) | exact absurd (by decide) c205
          · have f207 : 1 < 2 := by
              have q : _ := c205
              simp only [ti_nle, ti_nlt, ti_le, ti_lt, ti_eq, ti_ne, Classical.not_not, kt_1, kt_2] at q
              omega
            refine m_iload C dX12_bells_117 rfl ?_
            refine m_iload_n C dX12_bells_119 rfl rfl ?_
            refine m_imul C dX12_bells_120 ?_
            refine m_topi (fun x208 ex208 => ?_)
            have b209 : IV x208 4 4 := by rw [ex208]; decide
            have tx208 : x208.toInt = 4 := by rw [ex208]; decide
            obtain rfl : x208 = 4 := by rw [ex208]; decide
            refine m_istore (L1 := [some (.ref (G.1 22 0)), some (.int a1), some (.int 2), some (.int a3), some (.int 4), some (.int 1), none, none, none, none, none, none, none, none]) C dX12_bells_121 (by decide) rfl rfl ?_
            obtain ⟨x210, ex210⟩ : ∃ y : Int32, y = 1 + 1 := ⟨_, rfl⟩
            have b211 : IV x210 2 2 := by rw [ex210]; decide
            have tx210 : x210.toInt = 2 := by rw [ex210]; decide
            obtain rfl : x210 = 2 := by rw [ex210]; decide
            refine m_iinc (v := 2) (L1 := [some (.ref (G.1 22 0)), some (.int a1), some (.int 2), some (.int a3), some (.int 4), some (.int 2), none, none, none, none, none, none, none, none]) C dX12_bells_123 rfl (by decide) (by decide) rfl rfl ?_
            refine m_goto (tgt := 111) C dX12_bells_126 (by decide) ?_
            refine m_iload C dX12_bells_111 rfl ?_
            refine m_iload_n C dX12_bells_113 rfl rfl ?_
            refine m_icmp_ge (tgt := 129) C dX12_bells_114 (by decide) (fun c212 => ?_) (fun c212 => ?_)
            · have f213 : 2 ≤ 2 := by
                have q : _ := c212
                simp only [ti_nle, ti_nlt, ti_le, ti_lt, ti_eq, ti_ne, Classical.not_not, kt_2, kt_2] at q
                omega
              refine m_iconst (v := (-1)) C dX12_bells_129 (by decide) ?_
              refine m_istore (L1 := [some (.ref (G.1 22 0)), some (.int a1), some (.int 2), some (.int a3), some (.int 4), some (.int (-1)), none, none, none, none, none, none, none, none]) C dX12_bells_130 (by decide) rfl rfl ?_
              refine m_iconst (v := 0) C dX12_bells_132 (by decide) ?_
              refine m_istore (L1 := [some (.ref (G.1 22 0)), some (.int a1), some (.int 2), some (.int a3), some (.int 4), some (.int (-1)), some (.int 0), none, none, none, none, none, none, none]) C dX12_bells_133 (by decide) rfl rfl ?_
              refine m_iconst (v := 0) C dX12_bells_135 (by decide) ?_
              refine m_istore (L1 := [some (.ref (G.1 22 0)), some (.int a1), some (.int 2), some (.int a3), some (.int 4), some (.int (-1)), some (.int 0), some (.int 0), none, none, none, none, none, none]) C dX12_bells_136 (by decide) rfl rfl ?_
              exact J138 ((4 - (0 : Int32).toInt).toNat + 1) τ188 (-1) 0 0 i189 g193 b_a1 b_a3 (iv_wk kc_m1 (by decide)) (iv_wk kc_0 (by decide)) (iv_wk kc_0 (by decide)) (by omega) (by omega) (nL.all (by omega)) (Nat.lt_succ_self _)
            · first | exact absurd c212 (by decide) | exact absurd (by decide) c212
      · have f215 : y4.toInt < 2 := by
          have q : _ := c184
          simp only [ti_nle, ti_nlt, ti_le, ti_lt, ti_eq, ti_ne, Classical.not_not, kt_2] at q
          omega
        have b216 : IV y4 0 1 := ⟨by have q1 := b_y4; have q2 := kc_2; omega, by have q1 := b_y4; have q2 := kc_2; omega⟩
        refine m_aload_n C dX12_bells_67 rfl rfl ?_
        refine g_22_2 C q4_118 dX12_bells_68 ?_
        refine m_bipush (v := 40) C dX12_bells_71 (by decide) ?_
        refine m_iload_n C dX12_bells_73 rfl rfl ?_
        refine m_imul C dX12_bells_74 ?_
        refine m_topi (fun x217 ex217 => ?_)
        have tx217 : x217.toInt = 40 * a1.toInt := by rw [ex217, ti_mulv kc_40 b_a1 (by decide), kt_40]
        have b218 : IV x217 0 280 := by rw [ex217]; exact iv_mul kc_40 b_a1 (by decide)
        refine m_iload C dX12_bells_75 rfl ?_
        refine m_iadd C dX12_bells_77 ?_
        refine m_topi (fun x219 ex219 => ?_)
        have tx219 : x219.toInt = x217.toInt + y4.toInt := by rw [ex219, ti_addv b218 b216 (by decide)]
        have b220 : IV x219 0 281 := by rw [ex219]; exact iv_add b218 b216 (by decide)
        refine al_25 C b220 (by decide) rfl dX12_bells_78 ?_
        refine m_topi (fun x221 ex221 => ?_)
        have q222 : (gV σ 25 0 (40 * (a1.toInt.toNat) + y4.toInt.toNat)).toInt = x221.toInt := by rw [show 40 * (a1.toInt.toNat) + y4.toInt.toNat = (x219.toInt.toNat) by omega, ← (fτ).1 25 0 (x219.toInt.toNat) (by simp) (by decide), show gV τ 25 0 (x219.toInt.toNat) = x221 from ex221.symm]
        refine m_i2l C dX12_bells_79 ?_
        refine m_lconst (v := 1) C dX12_bells_80 (by decide) ?_
        refine m_ldc2 (v := 20) C dX12_bells_81 q5_174 ?_
        refine m_callS (n := 3) (st := []) C (c_X12_in l G τ ((x221 : Int32).toInt64) (1) (20) iτ ) q4_190 q4_188 q4_189 q1_7 (by decide +kernel) rfl (by decide) (by decide) rfl (Nat.le_of_ble_eq_true rfl) dX12_bells_84 ?_
        rintro _ τ223 ⟨x226, rfl, i224, f225, b227, h229⟩
        have g228 : Fr MS_X12_bells_2Q AS_X12_bells_2Q σ τ223 := Fr.call (fτ) f225 (by decide)
        have q230 : (gV τ223 22 0 8).toInt = (gV τ 22 0 8).toInt := congrArg Int32.toInt (show (gV τ223 22 0 8) = (gV τ 22 0 8) from (show gV τ223 22 0 8 = (gV τ 22 0 8) from (f225.1 22 0 (8) (by decide) (by decide)).trans rfl))
        have q231 : (gV τ223 26 0 (a1.toInt.toNat)).toInt = (gV τ 26 0 (a1.toInt.toNat)).toInt := congrArg Int32.toInt (show (gV τ223 26 0 (a1.toInt.toNat)) = (gV τ 26 0 (a1.toInt.toNat)) from (show gV τ223 26 0 (a1.toInt.toNat) = (gV τ 26 0 (a1.toInt.toNat)) from (f225.1 26 0 ((a1.toInt.toNat)) (by simp) (by decide)).trans rfl))
        have q232 : (gV τ223 27 0 (a1.toInt.toNat)).toInt = (gV τ 27 0 (a1.toInt.toNat)).toInt := congrArg Int32.toInt (show (gV τ223 27 0 (a1.toInt.toNat)) = (gV τ 27 0 (a1.toInt.toNat)) from (show gV τ223 27 0 (a1.toInt.toNat) = (gV τ 27 0 (a1.toInt.toNat)) from (f225.1 27 0 ((a1.toInt.toNat)) (by simp) (by decide)).trans rfl))
        have f233 := tl_i x221
        have f234 := kl_1
        have f235 := kl_20
        rcases h229 with ⟨h229_0, h229_1, h229_2⟩ | ⟨h229_0, h229_1⟩
        · skip
          have b236 : IV x226 1 1 := ⟨by omega, by omega⟩
          show MW p l e _ s m args below meth c _ 14 G 0 0 87 [some (.ref (G.1 22 0)), some (.int a1), some (.int 2), some (.int a3), some (.int y4), none, none, none, none, none, none, none, none, none] [.int x226] τ223
          refine m_if_ne (tgt := 93) C dX12_bells_87 (by decide) (fun c237 => ?_) (fun c237 => ?_)
          · have f238 : x226.toInt ≠ 0 := by
              have q : _ := c237
              simp only [ti_nle, ti_nlt, ti_le, ti_lt, ti_eq, ti_ne, Classical.not_not, kt_0] at q
              omega
            have b239 : IV x221 1 20 := ⟨by have q1 := (iv_any x221); omega, by have q1 := (iv_any x221); omega⟩
            obtain ⟨x240, ex240⟩ : ∃ y : Int32, y = y4 + 1 := ⟨_, rfl⟩
            have tx240 : x240.toInt = y4.toInt + 1 := by rw [ex240, ti_addv b216 kc_1 (by decide), kt_1]
            have b241 : IV x240 1 2 := by rw [ex240]; exact iv_add b216 kc_1 (by decide)
            refine m_iinc (v := x240) (L1 := [some (.ref (G.1 22 0)), some (.int a1), some (.int 2), some (.int a3), some (.int x240), none, none, none, none, none, none, none, none, none]) C dX12_bells_93 rfl (by rw [ex240]; rfl) (by decide) rfl rfl ?_
            refine m_goto (tgt := 61) C dX12_bells_96 (by decide) ?_
            exact ih61 τ223 x240 i224 g228 b_a1 b_a3 (iv_wk b241 (by decide)) (by omega) (by omega) (nL.more (k := y4.toInt.toNat) (by omega) (by omega) ⟨by omega, by omega⟩) (by have q := hm61; omega)
          · exfalso
            have q : _ := c237
            simp only [ti_nle, ti_nlt, ti_le, ti_lt, ti_eq, ti_ne, Classical.not_not, kt_0] at q
            have q1 := b236; have q2 := kc_0; omega
        · skip
          have b243 : IV x226 0 0 := ⟨by omega, by omega⟩
          show MW p l e _ s m args below meth c _ 14 G 0 0 87 [some (.ref (G.1 22 0)), some (.int a1), some (.int 2), some (.int a3), some (.int y4), none, none, none, none, none, none, none, none, none] [.int x226] τ223
          refine m_if_ne (tgt := 93) C dX12_bells_87 (by decide) (fun c244 => ?_) (fun c244 => ?_)
          · exfalso
            have q : _ := c244
            simp only [ti_nle, ti_nlt, ti_le, ti_lt, ti_eq, ti_ne, Classical.not_not, kt_0] at q
            have q1 := b243; have q2 := kc_0; omega
          · have f246 : x226.toInt = 0 := by
              have q : _ := c244
              simp only [ti_nle, ti_nlt, ti_le, ti_lt, ti_eq, ti_ne, Classical.not_not, kt_0] at q
              omega
            refine m_ldc (v := (-1000001)) C dX12_bells_90 q4_192 ?_
            exact m_iret C hr hlk (by decide) (by decide) dX12_bells_92 ⟨_, rfl, i224, g228, (iv_wk kc_m1000001 (by decide)), (Or.inr (Or.inr (Or.inr (Or.inl ⟨by have qk := kt_m1000001; omega, by have qk := kt_m1000001; omega, by have qk := kt_m1000001; omega, (fun g => by have q := g y4.toInt.toNat (by omega); omega), by have qk := kt_m1000001; omega⟩))))⟩
  have u247 : IV (gV σ 27 0 (a1.toInt.toNat)) 0 40 := hI.1 27 0 (a1.toInt.toNat)
  refine m_iload_n C dX12_bells_0 rfl rfl ?_
  refine m_callS (n := 1) (st := []) C (c_X12_isRow l G σ (a1) hI ) q4_186 q4_184 q4_185 q1_7 (by decide +kernel) rfl (by decide) (by decide) rfl (Nat.le_of_ble_eq_true rfl) dX12_bells_1 ?_
  rintro _ τ248 ⟨x251, rfl, i249, f250, b252, h254⟩
  have g253 : Fr MS_X12_bells_2Q AS_X12_bells_2Q σ τ248 := Fr.call (Fr.rf) f250 (by decide)
  have q255 : (gV τ248 22 0 8).toInt = (gV σ 22 0 8).toInt := congrArg Int32.toInt (show (gV τ248 22 0 8) = (gV σ 22 0 8) from (show gV τ248 22 0 8 = (gV σ 22 0 8) from (f250.1 22 0 (8) (by decide) (by decide)).trans rfl))
  have q256 : (gV τ248 26 0 (a1.toInt.toNat)).toInt = (gV σ 26 0 (a1.toInt.toNat)).toInt := congrArg Int32.toInt (show (gV τ248 26 0 (a1.toInt.toNat)) = (gV σ 26 0 (a1.toInt.toNat)) from (show gV τ248 26 0 (a1.toInt.toNat) = (gV σ 26 0 (a1.toInt.toNat)) from (f250.1 26 0 ((a1.toInt.toNat)) (by simp) (by decide)).trans rfl))
  have q257 : (gV τ248 27 0 (a1.toInt.toNat)).toInt = (gV σ 27 0 (a1.toInt.toNat)).toInt := congrArg Int32.toInt (show (gV τ248 27 0 (a1.toInt.toNat)) = (gV σ 27 0 (a1.toInt.toNat)) from (show gV τ248 27 0 (a1.toInt.toNat) = (gV σ 27 0 (a1.toInt.toNat)) from (f250.1 27 0 ((a1.toInt.toNat)) (by simp) (by decide)).trans rfl))
  rcases h254 with ⟨h254_0, h254_1, h254_2⟩ | ⟨h254_0, h254_1⟩
  · skip
    have b258 : IV x251 1 1 := ⟨by omega, by omega⟩
    show MW p l e _ s m args below meth c _ 14 G 0 0 4 [some (.ref (G.1 22 0)), some (.int a1), some (.int 2), some (.int a3), none, none, none, none, none, none, none, none, none, none] [.int x251] τ248
    refine m_if_eq (tgt := 24) C dX12_bells_4 (by decide) (fun c259 => ?_) (fun c259 => ?_)
    · exfalso
      have q : _ := c259
      simp only [ti_nle, ti_nlt, ti_le, ti_lt, ti_eq, ti_ne, Classical.not_not, kt_0] at q
      have q1 := b258; have q2 := kc_0; omega
    · have f261 : x251.toInt ≠ 0 := by
        have q : _ := c259
        simp only [ti_nle, ti_nlt, ti_le, ti_lt, ti_eq, ti_ne, Classical.not_not, kt_0] at q
        omega
      have b262 : IV a1 0 7 := ⟨by have q1 := (iv_any a1); omega, by have q1 := (iv_any a1); omega⟩
      refine m_iload_n C dX12_bells_7 rfl rfl ?_
      refine m_i2l C dX12_bells_8 ?_
      refine m_lconst (v := 1) C dX12_bells_9 (by decide) ?_
      refine m_ldc2 (v := 5) C dX12_bells_10 q5_173 ?_
      refine m_callS (n := 3) (st := []) C (c_X12_in l G τ248 ((2 : Int32).toInt64) (1) (5) i249 ) q4_190 q4_188 q4_189 q1_7 (by decide +kernel) rfl (by decide) (by decide) rfl (Nat.le_of_ble_eq_true rfl) dX12_bells_13 ?_
      rintro _ τ263 ⟨x266, rfl, i264, f265, b267, h269⟩
      have g268 : Fr MS_X12_bells_2Q AS_X12_bells_2Q σ τ263 := Fr.call (g253) f265 (by decide)
      have q270 : (gV τ263 22 0 8).toInt = (gV σ 22 0 8).toInt := congrArg Int32.toInt (show (gV τ263 22 0 8) = (gV σ 22 0 8) from (show gV τ263 22 0 8 = (gV σ 22 0 8) from (f265.1 22 0 (8) (by decide) (by decide)).trans (show gV τ248 22 0 8 = (gV σ 22 0 8) from (f250.1 22 0 (8) (by decide) (by decide)).trans rfl)))
      have q271 : (gV τ263 26 0 (a1.toInt.toNat)).toInt = (gV σ 26 0 (a1.toInt.toNat)).toInt := congrArg Int32.toInt (show (gV τ263 26 0 (a1.toInt.toNat)) = (gV σ 26 0 (a1.toInt.toNat)) from (show gV τ263 26 0 (a1.toInt.toNat) = (gV σ 26 0 (a1.toInt.toNat)) from (f265.1 26 0 ((a1.toInt.toNat)) (by simp) (by decide)).trans (show gV τ248 26 0 (a1.toInt.toNat) = (gV σ 26 0 (a1.toInt.toNat)) from (f250.1 26 0 ((a1.toInt.toNat)) (by simp) (by decide)).trans rfl)))
      have q272 : (gV τ263 27 0 (a1.toInt.toNat)).toInt = (gV σ 27 0 (a1.toInt.toNat)).toInt := congrArg Int32.toInt (show (gV τ263 27 0 (a1.toInt.toNat)) = (gV σ 27 0 (a1.toInt.toNat)) from (show gV τ263 27 0 (a1.toInt.toNat) = (gV σ 27 0 (a1.toInt.toNat)) from (f265.1 27 0 ((a1.toInt.toNat)) (by simp) (by decide)).trans (show gV τ248 27 0 (a1.toInt.toNat) = (gV σ 27 0 (a1.toInt.toNat)) from (f250.1 27 0 ((a1.toInt.toNat)) (by simp) (by decide)).trans rfl)))
      have f273 := tl_i 2
      have kf273 := kt_2
      have f274 := kl_1
      have f275 := kl_5
      rcases h269 with ⟨h269_0, h269_1, h269_2⟩ | ⟨h269_0, h269_1⟩
      · skip
        have b276 : IV x266 1 1 := ⟨by omega, by omega⟩
        show MW p l e _ s m args below meth c _ 14 G 0 0 16 [some (.ref (G.1 22 0)), some (.int a1), some (.int 2), some (.int a3), none, none, none, none, none, none, none, none, none, none] [.int x266] τ263
        refine m_if_eq (tgt := 24) C dX12_bells_16 (by decide) (fun c277 => ?_) (fun c277 => ?_)
        · exfalso
          have q : _ := c277
          simp only [ti_nle, ti_nlt, ti_le, ti_lt, ti_eq, ti_ne, Classical.not_not, kt_0] at q
          have q1 := b276; have q2 := kc_0; omega
        · have f279 : x266.toInt ≠ 0 := by
            have q : _ := c277
            simp only [ti_nle, ti_nlt, ti_le, ti_lt, ti_eq, ti_ne, Classical.not_not, kt_0] at q
            omega
          refine m_iload_n C dX12_bells_19 rfl rfl ?_
          refine m_iconst (v := (-1)) C dX12_bells_20 (by decide) ?_
          refine m_icmp_ge (tgt := 27) C dX12_bells_21 (by decide) (fun c280 => ?_) (fun c280 => ?_)
          · have f281 : -1 ≤ a3.toInt := by
              have q : _ := c280
              simp only [ti_nle, ti_nlt, ti_le, ti_lt, ti_eq, ti_ne, Classical.not_not, kt_m1] at q
              omega
            have b282 : IV a3 (-1) 2147483647 := ⟨by have q1 := kc_m1; have q2 := (iv_any a3); omega, by have q1 := kc_m1; have q2 := (iv_any a3); omega⟩
            refine m_aload_n C dX12_bells_27 rfl rfl ?_
            refine g_22_3 C q4_119 dX12_bells_28 ?_
            refine m_iload_n C dX12_bells_31 rfl rfl ?_
            refine al_26 C b262 (by decide) rfl dX12_bells_32 ?_
            refine m_eqs (w := (gV σ 26 0 (a1.toInt.toNat))) (show gV τ263 26 0 (a1.toInt.toNat) = (gV σ 26 0 (a1.toInt.toNat)) from (f265.1 26 0 ((a1.toInt.toNat)) (by simp) (by decide)).trans (show gV τ248 26 0 (a1.toInt.toNat) = (gV σ 26 0 (a1.toInt.toNat)) from (f250.1 26 0 ((a1.toInt.toNat)) (by simp) (by decide)).trans rfl)) ?_
            refine m_if_ge (tgt := 42) C dX12_bells_33 (by decide) (fun c283 => ?_) (fun c283 => ?_)
            · have f284 : 0 ≤ (gV σ 26 0 (a1.toInt.toNat)).toInt := by
                have q : _ := c283
                simp only [ti_nle, ti_nlt, ti_le, ti_lt, ti_eq, ti_ne, Classical.not_not, kt_0] at q
                omega
              have b285 : IV (gV σ 26 0 (a1.toInt.toNat)) 0 2147483647 := ⟨by have q1 := kc_0; have q2 := (iv_any (gV σ 26 0 (a1.toInt.toNat))); omega, by have q1 := kc_0; have q2 := (iv_any (gV σ 26 0 (a1.toInt.toNat))); omega⟩
              refine m_aload_n C dX12_bells_42 rfl rfl ?_
              refine g_22_4 C q4_120 dX12_bells_43 ?_
              refine m_iload_n C dX12_bells_46 rfl rfl ?_
              refine al_27 C b262 (by decide) rfl dX12_bells_47 ?_
              refine m_eqs (w := (gV σ 27 0 (a1.toInt.toNat))) (show gV τ263 27 0 (a1.toInt.toNat) = (gV σ 27 0 (a1.toInt.toNat)) from (f265.1 27 0 ((a1.toInt.toNat)) (by simp) (by decide)).trans (show gV τ248 27 0 (a1.toInt.toNat) = (gV σ 27 0 (a1.toInt.toNat)) from (f250.1 27 0 ((a1.toInt.toNat)) (by simp) (by decide)).trans rfl)) ?_
              refine m_iload_n C dX12_bells_48 rfl rfl ?_
              refine m_icmp_ge (tgt := 58) C dX12_bells_49 (by decide) (fun c286 => ?_) (fun c286 => ?_)
              · have f287 : 2 ≤ (gV σ 27 0 (a1.toInt.toNat)).toInt := by
                  have q : _ := c286
                  simp only [ti_nle, ti_nlt, ti_le, ti_lt, ti_eq, ti_ne, Classical.not_not, kt_2] at q
                  omega
                have b288 : IV (gV σ 27 0 (a1.toInt.toNat)) 2 40 := ⟨by have q1 := kc_2; have q2 := u247; omega, by have q1 := kc_2; have q2 := u247; omega⟩
                refine m_iconst (v := 0) C dX12_bells_58 (by decide) ?_
                refine m_istore (L1 := [some (.ref (G.1 22 0)), some (.int a1), some (.int 2), some (.int a3), some (.int 0), none, none, none, none, none, none, none, none, none]) C dX12_bells_59 (by decide) rfl rfl ?_
                exact J61 ((2 - (0 : Int32).toInt).toNat + 1) τ263 0 i264 g268 b262 b282 (iv_wk kc_0 (by decide)) (by omega) (by omega) (AlJ.zero (by have q := kt_0; omega)) (Nat.lt_succ_self _)
              · have f289 : (gV σ 27 0 (a1.toInt.toNat)).toInt < 2 := by
                  have q : _ := c286
                  simp only [ti_nle, ti_nlt, ti_le, ti_lt, ti_eq, ti_ne, Classical.not_not, kt_2] at q
                  omega
                have b290 : IV (gV σ 27 0 (a1.toInt.toNat)) 0 1 := ⟨by have q1 := u247; have q2 := kc_2; omega, by have q1 := u247; have q2 := kc_2; omega⟩
                refine m_aload_n C dX12_bells_52 rfl rfl ?_
                refine m_iconst (v := 2) C dX12_bells_53 (by decide) ?_
                have q291 := kt_2
                refine m_callV (n := 1) (ci := 11) (st := []) C (c_X12_metQ l G τ263 (2) i264 (iv_wk kc_2 (by decide))) (by decide) (by decide) rfl rfl rfl q4_196 q4_193 q4_195 q0_26 q1_7 (by decide +kernel) rfl (by decide) (by decide) rfl (Nat.le_of_ble_eq_true rfl) dX12_bells_54 ?_
                rintro _ τ292 ⟨x295, rfl, i293, f294, b296, h298⟩
                have g297 : Fr MS_X12_bells_2Q AS_X12_bells_2Q σ τ292 := Fr.call (g268) f294 (by decide)
                have q299 : (gV τ292 26 0 (a1.toInt.toNat)).toInt = (gV σ 26 0 (a1.toInt.toNat)).toInt := congrArg Int32.toInt (show (gV τ292 26 0 (a1.toInt.toNat)) = (gV σ 26 0 (a1.toInt.toNat)) from (show gV τ292 26 0 (a1.toInt.toNat) = (gV σ 26 0 (a1.toInt.toNat)) from (f294.1 26 0 ((a1.toInt.toNat)) (by simp) (by decide)).trans (show gV τ263 26 0 (a1.toInt.toNat) = (gV σ 26 0 (a1.toInt.toNat)) from (f265.1 26 0 ((a1.toInt.toNat)) (by simp) (by decide)).trans (show gV τ248 26 0 (a1.toInt.toNat) = (gV σ 26 0 (a1.toInt.toNat)) from (f250.1 26 0 ((a1.toInt.toNat)) (by simp) (by decide)).trans rfl))))
                have q300 : (gV τ292 27 0 (a1.toInt.toNat)).toInt = (gV σ 27 0 (a1.toInt.toNat)).toInt := congrArg Int32.toInt (show (gV τ292 27 0 (a1.toInt.toNat)) = (gV σ 27 0 (a1.toInt.toNat)) from (show gV τ292 27 0 (a1.toInt.toNat) = (gV σ 27 0 (a1.toInt.toNat)) from (f294.1 27 0 ((a1.toInt.toNat)) (by simp) (by decide)).trans (show gV τ263 27 0 (a1.toInt.toNat) = (gV σ 27 0 (a1.toInt.toNat)) from (f265.1 27 0 ((a1.toInt.toNat)) (by simp) (by decide)).trans (show gV τ248 27 0 (a1.toInt.toNat) = (gV σ 27 0 (a1.toInt.toNat)) from (f250.1 27 0 ((a1.toInt.toNat)) (by simp) (by decide)).trans rfl))))
                have q301 := kt_2
                show MW p l e _ s m args below meth c _ 14 G 0 0 57 [some (.ref (G.1 22 0)), some (.int a1), some (.int 2), some (.int a3), none, none, none, none, none, none, none, none, none, none] [.int x295] τ292
                exact m_iret C hr hlk (by decide) (by decide) dX12_bells_57 ⟨_, rfl, i293, g297, (iv_wk b296 (by decide)), (Or.inr (Or.inr (Or.inl ⟨by omega, by omega, by omega, by omega⟩)))⟩
            · have f302 : (gV σ 26 0 (a1.toInt.toNat)).toInt < 0 := by
                have q : _ := c283
                simp only [ti_nle, ti_nlt, ti_le, ti_lt, ti_eq, ti_ne, Classical.not_not, kt_0] at q
                omega
              have b303 : IV (gV σ 26 0 (a1.toInt.toNat)) (-2147483648) (-1) := ⟨by have q1 := (iv_any (gV σ 26 0 (a1.toInt.toNat))); have q2 := kc_0; omega, by have q1 := (iv_any (gV σ 26 0 (a1.toInt.toNat))); have q2 := kc_0; omega⟩
              refine m_aload_n C dX12_bells_36 rfl rfl ?_
              refine m_iconst (v := 1) C dX12_bells_37 (by decide) ?_
              have q304 := kt_1
              refine m_callV (n := 1) (ci := 11) (st := []) C (c_X12_metQ l G τ263 (1) i264 (iv_wk kc_1 (by decide))) (by decide) (by decide) rfl rfl rfl q4_196 q4_193 q4_195 q0_26 q1_7 (by decide +kernel) rfl (by decide) (by decide) rfl (Nat.le_of_ble_eq_true rfl) dX12_bells_38 ?_
              rintro _ τ305 ⟨x308, rfl, i306, f307, b309, h311⟩
              have g310 : Fr MS_X12_bells_2Q AS_X12_bells_2Q σ τ305 := Fr.call (g268) f307 (by decide)
              have q312 : (gV τ305 26 0 (a1.toInt.toNat)).toInt = (gV σ 26 0 (a1.toInt.toNat)).toInt := congrArg Int32.toInt (show (gV τ305 26 0 (a1.toInt.toNat)) = (gV σ 26 0 (a1.toInt.toNat)) from (show gV τ305 26 0 (a1.toInt.toNat) = (gV σ 26 0 (a1.toInt.toNat)) from (f307.1 26 0 ((a1.toInt.toNat)) (by simp) (by decide)).trans (show gV τ263 26 0 (a1.toInt.toNat) = (gV σ 26 0 (a1.toInt.toNat)) from (f265.1 26 0 ((a1.toInt.toNat)) (by simp) (by decide)).trans (show gV τ248 26 0 (a1.toInt.toNat) = (gV σ 26 0 (a1.toInt.toNat)) from (f250.1 26 0 ((a1.toInt.toNat)) (by simp) (by decide)).trans rfl))))
              have q313 : (gV τ305 27 0 (a1.toInt.toNat)).toInt = (gV σ 27 0 (a1.toInt.toNat)).toInt := congrArg Int32.toInt (show (gV τ305 27 0 (a1.toInt.toNat)) = (gV σ 27 0 (a1.toInt.toNat)) from (show gV τ305 27 0 (a1.toInt.toNat) = (gV σ 27 0 (a1.toInt.toNat)) from (f307.1 27 0 ((a1.toInt.toNat)) (by simp) (by decide)).trans (show gV τ263 27 0 (a1.toInt.toNat) = (gV σ 27 0 (a1.toInt.toNat)) from (f265.1 27 0 ((a1.toInt.toNat)) (by simp) (by decide)).trans (show gV τ248 27 0 (a1.toInt.toNat) = (gV σ 27 0 (a1.toInt.toNat)) from (f250.1 27 0 ((a1.toInt.toNat)) (by simp) (by decide)).trans rfl))))
              have q314 := kt_1
              show MW p l e _ s m args below meth c _ 14 G 0 0 41 [some (.ref (G.1 22 0)), some (.int a1), some (.int 2), some (.int a3), none, none, none, none, none, none, none, none, none, none] [.int x308] τ305
              exact m_iret C hr hlk (by decide) (by decide) dX12_bells_41 ⟨_, rfl, i306, g310, (iv_wk b309 (by decide)), (Or.inr (Or.inl ⟨by omega, by omega, by omega⟩))⟩
          · have f315 : a3.toInt < -1 := by
              have q : _ := c280
              simp only [ti_nle, ti_nlt, ti_le, ti_lt, ti_eq, ti_ne, Classical.not_not, kt_m1] at q
              omega
            have b316 : IV a3 (-2147483648) (-2) := ⟨by have q1 := (iv_any a3); have q2 := kc_m1; omega, by have q1 := (iv_any a3); have q2 := kc_m1; omega⟩
            refine m_ldc (v := (-1000001)) C dX12_bells_24 q4_192 ?_
            exact m_iret C hr hlk (by decide) (by decide) dX12_bells_26 ⟨_, rfl, i264, g268, (iv_wk kc_m1000001 (by decide)), (Or.inl ⟨by have qk := kt_m1000001; omega, by have qk := kt_m1000001; omega⟩)⟩
      · skip
        have b317 : IV x266 0 0 := ⟨by omega, by omega⟩
        show MW p l e _ s m args below meth c _ 14 G 0 0 16 [some (.ref (G.1 22 0)), some (.int a1), some (.int 2), some (.int a3), none, none, none, none, none, none, none, none, none, none] [.int x266] τ263
        refine m_if_eq (tgt := 24) C dX12_bells_16 (by decide) (fun c318 => ?_) (fun c318 => ?_)
        · have f319 : x266.toInt = 0 := by
            have q : _ := c318
            simp only [ti_nle, ti_nlt, ti_le, ti_lt, ti_eq, ti_ne, Classical.not_not, kt_0] at q
            omega
          refine m_ldc (v := (-1000001)) C dX12_bells_24 q4_192 ?_
          exact m_iret C hr hlk (by decide) (by decide) dX12_bells_26 ⟨_, rfl, i264, g268, (iv_wk kc_m1000001 (by decide)), (Or.inl ⟨by have qk := kt_m1000001; omega, by have qk := kt_m1000001; omega⟩)⟩
        · exfalso
          have q : _ := c318
          simp only [ti_nle, ti_nlt, ti_le, ti_lt, ti_eq, ti_ne, Classical.not_not, kt_0] at q
          have q1 := b317; have q2 := kc_0; omega
  · skip
    have b321 : IV x251 0 0 := ⟨by omega, by omega⟩
    show MW p l e _ s m args below meth c _ 14 G 0 0 4 [some (.ref (G.1 22 0)), some (.int a1), some (.int 2), some (.int a3), none, none, none, none, none, none, none, none, none, none] [.int x251] τ248
    refine m_if_eq (tgt := 24) C dX12_bells_4 (by decide) (fun c322 => ?_) (fun c322 => ?_)
    · have f323 : x251.toInt = 0 := by
        have q : _ := c322
        simp only [ti_nle, ti_nlt, ti_le, ti_lt, ti_eq, ti_ne, Classical.not_not, kt_0] at q
        omega
      refine m_ldc (v := (-1000001)) C dX12_bells_24 q4_192 ?_
      exact m_iret C hr hlk (by decide) (by decide) dX12_bells_26 ⟨_, rfl, i249, g253, (iv_wk kc_m1000001 (by decide)), (Or.inl ⟨by have qk := kt_m1000001; omega, by have qk := kt_m1000001; omega⟩)⟩
    · exfalso
      have q : _ := c322
      simp only [ti_nle, ti_nlt, ti_le, ti_lt, ti_eq, ti_ne, Classical.not_not, kt_0] at q
      have q1 := b321; have q2 := kc_0; omega

abbrev MS_X12_bells_3Q : List (Nat × Nat) := [(22, 8)]
abbrev AS_X12_bells_3Q : List Nat := []
set_option maxHeartbeats 4000000 in
set_option maxRecDepth 100000 in
theorem c_X12_bells_3Q (l : Launch) (G : Gt) (σ : Sg) (a1 : Int32) (a3 : Int32) (hI : Inv σ) : Mc l G yX12_bells cX12_bells 14 (some .int) 2 60 0 0 [.ref (G.1 22 0), .int a1, .int 3, .int a3] σ (PI fun r τ => Inv τ ∧ Fr MS_X12_bells_3Q AS_X12_bells_3Q σ τ ∧ IV r (-2147483648) 2147483647 ∧ BLM σ τ a1 a3 3) := by
  refine Mc.of (L0 := [some (.ref (G.1 22 0)), some (.int a1), some (.int 3), some (.int a3), none, none, none, none, none, none, none, none, none, none]) (by decide) (Nat.le_of_ble_eq_true rfl) rfl ?_
  intro p e s m args below meth c C hr hlk
  have C : Cx p s m args c cX12_bells 14 "LeanTowerModel" := C
  have k0 : (0 : Int32).toInt = 0 := by decide
  have k1 : (1 : Int32).toInt = 1 := by decide
  have J138 : ∀ (n : Nat) (τ : Sg) (y5 : Int32) (y6 : Int32) (y7 : Int32), Inv τ → Fr MS_X12_bells_3Q AS_X12_bells_3Q σ τ → IV a1 0 7 → IV a3 (-1) 2147483647 → IV y5 (-1) 40 → IV y6 (-2147483648) 2147483647 → IV y7 0 27 → (((0 ≤ a1.toInt ∧ a1.toInt ≤ 7) ∧ 1 ≤ 3 ∧ 3 ≤ 5 ∧ -1 ≤ a3.toInt ∧ 0 ≤ (gV σ 26 0 (a1.toInt.toNat)).toInt ∧ 3 ≤ (gV σ 27 0 (a1.toInt.toNat)).toInt)) → ((gV τ 22 0 8).toInt = 0) → (AlJ σ (a1.toInt.toNat) 3 1 20) → (27 - y7.toInt).toNat < n → MW p l e { frames := 2, cells := 0, slots := 0, locals := 60 } s m args below meth c (MQ below (QP G (PI fun r τ => Inv τ ∧ Fr MS_X12_bells_3Q AS_X12_bells_3Q σ τ ∧ IV r (-2147483648) 2147483647 ∧ BLM σ τ a1 a3 3)) args s 0 0 (aG G)) 14 G 0 0 138 [some (.ref (G.1 22 0)), some (.int a1), some (.int 3), some (.int a3), some (.int 27), some (.int y5), some (.int y6), some (.int y7), none, none, none, none, none, none] [] τ := by
    intro n
    induction n with
    | zero => intro τ y5 y6 y7 iτ fτ b_a1 b_a3 b_y5 b_y6 b_y7 n1 n2 nL hm; exact absurd hm (Nat.not_lt_zero _)
    | succ n ih138 =>
      intro τ y5 y6 y7 iτ fτ b_a1 b_a3 b_y5 b_y6 b_y7 n1 n2 nL hm138
      have u3 : IV (gV τ 27 0 (a1.toInt.toNat)) 0 40 := iτ.1 27 0 (a1.toInt.toNat)
      refine m_iload C dX12_bells_138 rfl ?_
      refine m_iload C dX12_bells_140 rfl ?_
      refine m_icmp_ge (tgt := 285) C dX12_bells_142 (by decide) (fun c4 => ?_) (fun c4 => ?_)
      · have f5 : 27 ≤ y7.toInt := by
          have q : _ := c4
          simp only [ti_nle, ti_nlt, ti_le, ti_lt, ti_eq, ti_ne, Classical.not_not, kt_27] at q
          omega
        have b6 : IV y7 27 27 := ⟨by have q1 := kc_27; have q2 := b_y7; omega, by have q1 := kc_27; have q2 := b_y7; omega⟩
        refine m_iload_n C dX12_bells_285 rfl rfl ?_
        refine m_if_ge (tgt := 292) C dX12_bells_286 (by decide) (fun c7 => ?_) (fun c7 => ?_)
        · have f8 : 0 ≤ a3.toInt := by
            have q : _ := c7
            simp only [ti_nle, ti_nlt, ti_le, ti_lt, ti_eq, ti_ne, Classical.not_not, kt_0] at q
            omega
          have b9 : IV a3 0 2147483647 := ⟨by have q1 := kc_0; have q2 := b_a3; omega, by have q1 := kc_0; have q2 := b_a3; omega⟩
          refine m_iload C dX12_bells_292 rfl ?_
          refine m_istore (L1 := [some (.ref (G.1 22 0)), some (.int a1), some (.int 3), some (.int a3), some (.int 27), some (.int y5), some (.int y6), some (.int 27), none, none, none, none, none, none]) C dX12_bells_294 (by decide) rfl rfl ?_
          refine m_iconst (v := 0) C dX12_bells_296 (by decide) ?_
          refine m_istore (L1 := [some (.ref (G.1 22 0)), some (.int a1), some (.int 3), some (.int a3), some (.int 27), some (.int y5), some (.int y6), some (.int 27), some (.int 0), none, none, none, none, none]) C dX12_bells_297 (by decide) rfl rfl ?_
          refine m_iload C dX12_bells_299 rfl ?_
          refine m_iload_n C dX12_bells_301 rfl rfl ?_
          refine m_icmp_gt (tgt := 323) C dX12_bells_302 (by decide) (fun c10 => ?_) (fun c10 => ?_)
          · exfalso
            have q : _ := c10
            simp only [ti_nle, ti_nlt, ti_le, ti_lt, ti_eq, ti_ne, Classical.not_not, kt_0] at q
            have q1 := kc_0; have q2 := b9; omega
          · have f12 : 0 ≤ a3.toInt := by
              have q : _ := c10
              simp only [ti_nle, ti_nlt, ti_le, ti_lt, ti_eq, ti_ne, Classical.not_not, kt_0] at q
              omega
            refine m_iload C dX12_bells_305 rfl ?_
            refine m_iload_n C dX12_bells_307 rfl rfl ?_
            refine m_icmp_ge (tgt := 323) C dX12_bells_308 (by decide) (fun c13 => ?_) (fun c13 => ?_)
            · first | exact absurd c13 (by decide) | exact absurd (by decide) c13
            · have f15 : 0 < 3 := by
                have q : _ := c13
                simp only [ti_nle, ti_nlt, ti_le, ti_lt, ti_eq, ti_ne, Classical.not_not, kt_0, kt_3] at q
                omega
              refine m_iload C dX12_bells_311 rfl ?_
              refine m_iload_n C dX12_bells_313 rfl rfl ?_
              refine m_idiv C dX12_bells_314 (iv_nz kc_3 (by decide)) ?_
              refine m_topi (fun x16 ex16 => ?_)
              have b17 : IV x16 9 9 := by rw [ex16]; decide
              have tx16 : x16.toInt = 9 := by rw [ex16]; decide
              obtain rfl : x16 = 9 := by rw [ex16]; decide
              refine m_istore (L1 := [some (.ref (G.1 22 0)), some (.int a1), some (.int 3), some (.int a3), some (.int 27), some (.int y5), some (.int y6), some (.int 9), some (.int 0), none, none, none, none, none]) C dX12_bells_315 (by decide) rfl rfl ?_
              obtain ⟨x18, ex18⟩ : ∃ y : Int32, y = 0 + 1 := ⟨_, rfl⟩
              have b19 : IV x18 1 1 := by rw [ex18]; decide
              have tx18 : x18.toInt = 1 := by rw [ex18]; decide
              obtain rfl : x18 = 1 := by rw [ex18]; decide
              refine m_iinc (v := 1) (L1 := [some (.ref (G.1 22 0)), some (.int a1), some (.int 3), some (.int a3), some (.int 27), some (.int y5), some (.int y6), some (.int 9), some (.int 1), none, none, none, none, none]) C dX12_bells_317 rfl (by decide) (by decide) rfl rfl ?_
              refine m_goto (tgt := 299) C dX12_bells_320 (by decide) ?_
              refine m_iload C dX12_bells_299 rfl ?_
              refine m_iload_n C dX12_bells_301 rfl rfl ?_
              refine m_icmp_gt (tgt := 323) C dX12_bells_302 (by decide) (fun c20 => ?_) (fun c20 => ?_)
              · have f21 : a3.toInt < 1 := by
                  have q : _ := c20
                  simp only [ti_nle, ti_nlt, ti_le, ti_lt, ti_eq, ti_ne, Classical.not_not, kt_1] at q
                  omega
                have b22 : IV a3 0 0 := ⟨by have q1 := b9; have q2 := kc_1; omega, by have q1 := b9; have q2 := kc_1; omega⟩
                refine m_iload_n C dX12_bells_323 rfl rfl ?_
                refine m_iload_n C dX12_bells_324 rfl rfl ?_
                refine m_icmp_ge (tgt := 338) C dX12_bells_325 (by decide) (fun c23 => ?_) (fun c23 => ?_)
                · exfalso
                  have q : _ := c23
                  simp only [ti_nle, ti_nlt, ti_le, ti_lt, ti_eq, ti_ne, Classical.not_not, kt_3] at q
                  have q1 := b22; have q2 := kc_3; omega
                · have f25 : a3.toInt < 3 := by
                    have q : _ := c23
                    simp only [ti_nle, ti_nlt, ti_le, ti_lt, ti_eq, ti_ne, Classical.not_not, kt_3] at q
                    omega
                  refine m_iload C dX12_bells_328 rfl ?_
                  refine m_iload C dX12_bells_330 rfl ?_
                  refine m_idiv C dX12_bells_332 (iv_nz kc_9 (by decide)) ?_
                  refine m_topi (fun x26 ex26 => ?_)
                  refine m_iload_n C dX12_bells_333 rfl rfl ?_
                  refine m_irem C dX12_bells_334 (iv_nz kc_3 (by decide)) ?_
                  refine m_topi (fun x27 ex27 => ?_)
                  refine m_goto (tgt := 340) C dX12_bells_335 (by decide) ?_
                  exact m_iret C hr hlk (by decide) (by decide) dX12_bells_340 ⟨_, rfl, iτ, fτ, (iv_any x27), (Or.inr (Or.inr (Or.inr (Or.inr (⟨by omega, by omega, by omega, nL, by omega⟩)))))⟩
              · have f28 : 1 ≤ a3.toInt := by
                  have q : _ := c20
                  simp only [ti_nle, ti_nlt, ti_le, ti_lt, ti_eq, ti_ne, Classical.not_not, kt_1] at q
                  omega
                have b29 : IV a3 1 2147483647 := ⟨by have q1 := kc_1; have q2 := b9; omega, by have q1 := kc_1; have q2 := b9; omega⟩
                refine m_iload C dX12_bells_305 rfl ?_
                refine m_iload_n C dX12_bells_307 rfl rfl ?_
                refine m_icmp_ge (tgt := 323) C dX12_bells_308 (by decide) (fun c30 => ?_) (fun c30 => ?_)
                · first | exact absurd c30 (by decide) | exact absurd (by decide) c30
                · have f32 : 1 < 3 := by
                    have q : _ := c30
                    simp only [ti_nle, ti_nlt, ti_le, ti_lt, ti_eq, ti_ne, Classical.not_not, kt_1, kt_3] at q
                    omega
                  refine m_iload C dX12_bells_311 rfl ?_
                  refine m_iload_n C dX12_bells_313 rfl rfl ?_
                  refine m_idiv C dX12_bells_314 (iv_nz kc_3 (by decide)) ?_
                  refine m_topi (fun x33 ex33 => ?_)
                  have b34 : IV x33 3 3 := by rw [ex33]; decide
                  have tx33 : x33.toInt = 3 := by rw [ex33]; decide
                  obtain rfl : x33 = 3 := by rw [ex33]; decide
                  refine m_istore (L1 := [some (.ref (G.1 22 0)), some (.int a1), some (.int 3), some (.int a3), some (.int 27), some (.int y5), some (.int y6), some (.int 3), some (.int 1), none, none, none, none, none]) C dX12_bells_315 (by decide) rfl rfl ?_
                  obtain ⟨x35, ex35⟩ : ∃ y : Int32, y = 1 + 1 := ⟨_, rfl⟩
                  have b36 : IV x35 2 2 := by rw [ex35]; decide
                  have tx35 : x35.toInt = 2 := by rw [ex35]; decide
                  obtain rfl : x35 = 2 := by rw [ex35]; decide
                  refine m_iinc (v := 2) (L1 := [some (.ref (G.1 22 0)), some (.int a1), some (.int 3), some (.int a3), some (.int 27), some (.int y5), some (.int y6), some (.int 3), some (.int 2), none, none, none, none, none]) C dX12_bells_317 rfl (by decide) (by decide) rfl rfl ?_
                  refine m_goto (tgt := 299) C dX12_bells_320 (by decide) ?_
                  refine m_iload C dX12_bells_299 rfl ?_
                  refine m_iload_n C dX12_bells_301 rfl rfl ?_
                  refine m_icmp_gt (tgt := 323) C dX12_bells_302 (by decide) (fun c37 => ?_) (fun c37 => ?_)
                  · have f38 : a3.toInt < 2 := by
                      have q : _ := c37
                      simp only [ti_nle, ti_nlt, ti_le, ti_lt, ti_eq, ti_ne, Classical.not_not, kt_2] at q
                      omega
                    have b39 : IV a3 1 1 := ⟨by have q1 := b29; have q2 := kc_2; omega, by have q1 := b29; have q2 := kc_2; omega⟩
                    refine m_iload_n C dX12_bells_323 rfl rfl ?_
                    refine m_iload_n C dX12_bells_324 rfl rfl ?_
                    refine m_icmp_ge (tgt := 338) C dX12_bells_325 (by decide) (fun c40 => ?_) (fun c40 => ?_)
                    · exfalso
                      have q : _ := c40
                      simp only [ti_nle, ti_nlt, ti_le, ti_lt, ti_eq, ti_ne, Classical.not_not, kt_3] at q
                      have q1 := b39; have q2 := kc_3; omega
                    · have f42 : a3.toInt < 3 := by
                        have q : _ := c40
                        simp only [ti_nle, ti_nlt, ti_le, ti_lt, ti_eq, ti_ne, Classical.not_not, kt_3] at q
                        omega
                      refine m_iload C dX12_bells_328 rfl ?_
                      refine m_iload C dX12_bells_330 rfl ?_
                      refine m_idiv C dX12_bells_332 (iv_nz kc_3 (by decide)) ?_
                      refine m_topi (fun x43 ex43 => ?_)
                      refine m_iload_n C dX12_bells_333 rfl rfl ?_
                      refine m_irem C dX12_bells_334 (iv_nz kc_3 (by decide)) ?_
                      refine m_topi (fun x44 ex44 => ?_)
                      refine m_goto (tgt := 340) C dX12_bells_335 (by decide) ?_
                      exact m_iret C hr hlk (by decide) (by decide) dX12_bells_340 ⟨_, rfl, iτ, fτ, (iv_any x44), (Or.inr (Or.inr (Or.inr (Or.inr (⟨by omega, by omega, by omega, nL, by omega⟩)))))⟩
                  · have f45 : 2 ≤ a3.toInt := by
                      have q : _ := c37
                      simp only [ti_nle, ti_nlt, ti_le, ti_lt, ti_eq, ti_ne, Classical.not_not, kt_2] at q
                      omega
                    have b46 : IV a3 2 2147483647 := ⟨by have q1 := kc_2; have q2 := b29; omega, by have q1 := kc_2; have q2 := b29; omega⟩
                    refine m_iload C dX12_bells_305 rfl ?_
                    refine m_iload_n C dX12_bells_307 rfl rfl ?_
                    refine m_icmp_ge (tgt := 323) C dX12_bells_308 (by decide) (fun c47 => ?_) (fun c47 => ?_)
                    · first | exact absurd c47 (by decide) | exact absurd (by decide) c47
                    · have f49 : 2 < 3 := by
                        have q : _ := c47
                        simp only [ti_nle, ti_nlt, ti_le, ti_lt, ti_eq, ti_ne, Classical.not_not, kt_2, kt_3] at q
                        omega
                      refine m_iload C dX12_bells_311 rfl ?_
                      refine m_iload_n C dX12_bells_313 rfl rfl ?_
                      refine m_idiv C dX12_bells_314 (iv_nz kc_3 (by decide)) ?_
                      refine m_topi (fun x50 ex50 => ?_)
                      have b51 : IV x50 1 1 := by rw [ex50]; decide
                      have tx50 : x50.toInt = 1 := by rw [ex50]; decide
                      obtain rfl : x50 = 1 := by rw [ex50]; decide
                      refine m_istore (L1 := [some (.ref (G.1 22 0)), some (.int a1), some (.int 3), some (.int a3), some (.int 27), some (.int y5), some (.int y6), some (.int 1), some (.int 2), none, none, none, none, none]) C dX12_bells_315 (by decide) rfl rfl ?_
                      obtain ⟨x52, ex52⟩ : ∃ y : Int32, y = 2 + 1 := ⟨_, rfl⟩
                      have b53 : IV x52 3 3 := by rw [ex52]; decide
                      have tx52 : x52.toInt = 3 := by rw [ex52]; decide
                      obtain rfl : x52 = 3 := by rw [ex52]; decide
                      refine m_iinc (v := 3) (L1 := [some (.ref (G.1 22 0)), some (.int a1), some (.int 3), some (.int a3), some (.int 27), some (.int y5), some (.int y6), some (.int 1), some (.int 3), none, none, none, none, none]) C dX12_bells_317 rfl (by decide) (by decide) rfl rfl ?_
                      refine m_goto (tgt := 299) C dX12_bells_320 (by decide) ?_
                      refine m_iload C dX12_bells_299 rfl ?_
                      refine m_iload_n C dX12_bells_301 rfl rfl ?_
                      refine m_icmp_gt (tgt := 323) C dX12_bells_302 (by decide) (fun c54 => ?_) (fun c54 => ?_)
                      · have f55 : a3.toInt < 3 := by
                          have q : _ := c54
                          simp only [ti_nle, ti_nlt, ti_le, ti_lt, ti_eq, ti_ne, Classical.not_not, kt_3] at q
                          omega
                        have b56 : IV a3 2 2 := ⟨by have q1 := b46; have q2 := kc_3; omega, by have q1 := b46; have q2 := kc_3; omega⟩
                        refine m_iload_n C dX12_bells_323 rfl rfl ?_
                        refine m_iload_n C dX12_bells_324 rfl rfl ?_
                        refine m_icmp_ge (tgt := 338) C dX12_bells_325 (by decide) (fun c57 => ?_) (fun c57 => ?_)
                        · exfalso
                          have q : _ := c57
                          simp only [ti_nle, ti_nlt, ti_le, ti_lt, ti_eq, ti_ne, Classical.not_not, kt_3] at q
                          have q1 := b56; have q2 := kc_3; omega
                        · have f59 : a3.toInt < 3 := by
                            have q : _ := c57
                            simp only [ti_nle, ti_nlt, ti_le, ti_lt, ti_eq, ti_ne, Classical.not_not, kt_3] at q
                            omega
                          refine m_iload C dX12_bells_328 rfl ?_
                          refine m_iload C dX12_bells_330 rfl ?_
                          refine m_idiv C dX12_bells_332 (iv_nz kc_1 (by decide)) ?_
                          refine m_topi (fun x60 ex60 => ?_)
                          refine m_iload_n C dX12_bells_333 rfl rfl ?_
                          refine m_irem C dX12_bells_334 (iv_nz kc_3 (by decide)) ?_
                          refine m_topi (fun x61 ex61 => ?_)
                          refine m_goto (tgt := 340) C dX12_bells_335 (by decide) ?_
                          exact m_iret C hr hlk (by decide) (by decide) dX12_bells_340 ⟨_, rfl, iτ, fτ, (iv_any x61), (Or.inr (Or.inr (Or.inr (Or.inr (⟨by omega, by omega, by omega, nL, by omega⟩)))))⟩
                      · have f62 : 3 ≤ a3.toInt := by
                          have q : _ := c54
                          simp only [ti_nle, ti_nlt, ti_le, ti_lt, ti_eq, ti_ne, Classical.not_not, kt_3] at q
                          omega
                        have b63 : IV a3 3 2147483647 := ⟨by have q1 := kc_3; have q2 := b46; omega, by have q1 := kc_3; have q2 := b46; omega⟩
                        refine m_iload C dX12_bells_305 rfl ?_
                        refine m_iload_n C dX12_bells_307 rfl rfl ?_
                        refine m_icmp_ge (tgt := 323) C dX12_bells_308 (by decide) (fun c64 => ?_) (fun c64 => ?_)
                        · have f65 : 3 ≤ 3 := by
                            have q : _ := c64
                            simp only [ti_nle, ti_nlt, ti_le, ti_lt, ti_eq, ti_ne, Classical.not_not, kt_3, kt_3] at q
                            omega
                          refine m_iload_n C dX12_bells_323 rfl rfl ?_
                          refine m_iload_n C dX12_bells_324 rfl rfl ?_
                          refine m_icmp_ge (tgt := 338) C dX12_bells_325 (by decide) (fun c66 => ?_) (fun c66 => ?_)
                          · have f67 : 3 ≤ a3.toInt := by
                              have q : _ := c66
                              simp only [ti_nle, ti_nlt, ti_le, ti_lt, ti_eq, ti_ne, Classical.not_not, kt_3] at q
                              omega
                            refine m_ldc (v := (-1000000)) C dX12_bells_338 q5_70 ?_
                            exact m_iret C hr hlk (by decide) (by decide) dX12_bells_340 ⟨_, rfl, iτ, fτ, (iv_wk kc_m1000000 (by decide)), (Or.inr (Or.inr (Or.inr (Or.inr (⟨by have qk := kt_m1000000; omega, by have qk := kt_m1000000; omega, by have qk := kt_m1000000; omega, nL, by have qk := kt_m1000000; omega⟩)))))⟩
                          · exfalso
                            have q : _ := c66
                            simp only [ti_nle, ti_nlt, ti_le, ti_lt, ti_eq, ti_ne, Classical.not_not, kt_3] at q
                            have q1 := b63; have q2 := kc_3; omega
                        · first | exact absurd c64 (by decide) | exact absurd (by decide) c64
        · have f70 : a3.toInt < 0 := by
            have q : _ := c7
            simp only [ti_nle, ti_nlt, ti_le, ti_lt, ti_eq, ti_ne, Classical.not_not, kt_0] at q
            omega
          have b71 : IV a3 (-1) (-1) := ⟨by have q1 := b_a3; have q2 := kc_0; omega, by have q1 := b_a3; have q2 := kc_0; omega⟩
          refine m_iload C dX12_bells_289 rfl ?_
          exact m_iret C hr hlk (by decide) (by decide) dX12_bells_291 ⟨_, rfl, iτ, fτ, b_y6, (Or.inr (Or.inr (Or.inr (Or.inr (⟨by omega, by omega, by omega, nL, by omega⟩)))))⟩
      · have f72 : y7.toInt < 27 := by
          have q : _ := c4
          simp only [ti_nle, ti_nlt, ti_le, ti_lt, ti_eq, ti_ne, Classical.not_not, kt_27] at q
          omega
        have b73 : IV y7 0 26 := ⟨by have q1 := b_y7; have q2 := kc_27; omega, by have q1 := b_y7; have q2 := kc_27; omega⟩
        refine m_iconst (v := 0) C dX12_bells_145 (by decide) ?_
        refine m_istore (L1 := [some (.ref (G.1 22 0)), some (.int a1), some (.int 3), some (.int a3), some (.int 27), some (.int y5), some (.int y6), some (.int y7), some (.int 0), none, none, none, none, none]) C dX12_bells_146 (by decide) rfl rfl ?_
        refine m_iload C dX12_bells_148 rfl ?_
        refine m_istore (L1 := [some (.ref (G.1 22 0)), some (.int a1), some (.int 3), some (.int a3), some (.int 27), some (.int y5), some (.int y6), some (.int y7), some (.int 0), some (.int 27), none, none, none, none]) C dX12_bells_150 (by decide) rfl rfl ?_
        refine m_iconst (v := 0) C dX12_bells_152 (by decide) ?_
        refine m_istore (L1 := [some (.ref (G.1 22 0)), some (.int a1), some (.int 3), some (.int a3), some (.int 27), some (.int y5), some (.int y6), some (.int y7), some (.int 0), some (.int 27), some (.int 0), none, none, none]) C dX12_bells_153 (by decide) rfl rfl ?_
        refine m_iconst (v := 0) C dX12_bells_155 (by decide) ?_
        refine m_istore (L1 := [some (.ref (G.1 22 0)), some (.int a1), some (.int 3), some (.int a3), some (.int 27), some (.int y5), some (.int y6), some (.int y7), some (.int 0), some (.int 27), some (.int 0), some (.int 0), none, none]) C dX12_bells_156 (by decide) rfl rfl ?_
        refine m_iconst (v := 0) C dX12_bells_158 (by decide) ?_
        refine m_istore (L1 := [some (.ref (G.1 22 0)), some (.int a1), some (.int 3), some (.int a3), some (.int 27), some (.int y5), some (.int y6), some (.int y7), some (.int 0), some (.int 27), some (.int 0), some (.int 0), some (.int 0), none]) C dX12_bells_159 (by decide) rfl rfl ?_
        refine m_iload C dX12_bells_161 rfl ?_
        refine m_iload_n C dX12_bells_163 rfl rfl ?_
        refine m_icmp_ge (tgt := 249) C dX12_bells_164 (by decide) (fun c74 => ?_) (fun c74 => ?_)
        · first | exact absurd c74 (by decide) | exact absurd (by decide) c74
        · have f76 : 0 < 3 := by
            have q : _ := c74
            simp only [ti_nle, ti_nlt, ti_le, ti_lt, ti_eq, ti_ne, Classical.not_not, kt_0, kt_3] at q
            omega
          refine m_iload C dX12_bells_167 rfl ?_
          refine m_iload_n C dX12_bells_169 rfl rfl ?_
          refine m_idiv C dX12_bells_170 (iv_nz kc_3 (by decide)) ?_
          refine m_topi (fun x77 ex77 => ?_)
          have b78 : IV x77 9 9 := by rw [ex77]; decide
          have tx77 : x77.toInt = 9 := by rw [ex77]; decide
          obtain rfl : x77 = 9 := by rw [ex77]; decide
          refine m_istore (L1 := [some (.ref (G.1 22 0)), some (.int a1), some (.int 3), some (.int a3), some (.int 27), some (.int y5), some (.int y6), some (.int y7), some (.int 0), some (.int 9), some (.int 0), some (.int 0), some (.int 0), none]) C dX12_bells_171 (by decide) rfl rfl ?_
          refine m_iload C dX12_bells_173 rfl ?_
          refine m_iload C dX12_bells_175 rfl ?_
          refine m_idiv C dX12_bells_177 (iv_nz kc_9 (by decide)) ?_
          refine m_topi (fun x79 ex79 => ?_)
          have b80 : IV x79 0 2 := by rw [ex79]; exact iv_div b73 kc_9 (by decide)
          refine m_iload_n C dX12_bells_178 rfl rfl ?_
          refine m_irem C dX12_bells_179 (iv_nz kc_3 (by decide)) ?_
          refine m_topi (fun x81 ex81 => ?_)
          have b82 : IV x81 0 2 := by rw [ex81]; exact iv_rem b80 kc_3 (by decide)
          refine m_istore (L1 := [some (.ref (G.1 22 0)), some (.int a1), some (.int 3), some (.int a3), some (.int 27), some (.int y5), some (.int y6), some (.int y7), some (.int 0), some (.int 9), some (.int 0), some (.int 0), some (.int 0), some (.int x81)]) C dX12_bells_180 (by decide) rfl rfl ?_
          refine m_iload C dX12_bells_182 rfl ?_
          refine m_iconst (v := 1) C dX12_bells_184 (by decide) ?_
          refine m_iload C dX12_bells_185 rfl ?_
          refine m_ishl C dX12_bells_187 ?_
          refine m_topi (fun x83 ex83 => ?_)
          have b84 : IV x83 1 4 := by rw [ex83]; exact iv_shl1 b82 (by decide)
          refine m_ior C dX12_bells_188 ?_
          refine m_topi (fun x85 ex85 => ?_)
          have b86 : IV x85 0 7 := by rw [ex85]; exact iv_or 3 kc_0 b84 (by decide)
          refine m_istore (L1 := [some (.ref (G.1 22 0)), some (.int a1), some (.int 3), some (.int a3), some (.int 27), some (.int y5), some (.int y6), some (.int y7), some (.int x85), some (.int 9), some (.int 0), some (.int 0), some (.int 0), some (.int x81)]) C dX12_bells_189 (by decide) rfl rfl ?_
          refine m_iload C dX12_bells_191 rfl ?_
          refine m_iload C dX12_bells_193 rfl ?_
          refine m_iconst (v := 2) C dX12_bells_195 (by decide) ?_
          refine m_irem C dX12_bells_196 (iv_nz kc_2 (by decide)) ?_
          refine m_topi (fun x87 ex87 => ?_)
          have b88 : IV x87 0 0 := by rw [ex87]; decide
          have tx87 : x87.toInt = 0 := by rw [ex87]; decide
          obtain rfl : x87 = 0 := by rw [ex87]; decide
          refine m_if_ne (tgt := 215) C dX12_bells_197 (by decide) (fun c89 => ?_) (fun c89 => ?_)
          · first | exact absurd c89 (by decide) | exact absurd (by decide) c89
          · have f91 : 0 = 0 := by
              have q : _ := c89
              simp only [ti_nle, ti_nlt, ti_le, ti_lt, ti_eq, ti_ne, Classical.not_not, kt_0, kt_0] at q
              omega
            refine m_aload_n C dX12_bells_200 rfl rfl ?_
            refine g_22_2 C q4_118 dX12_bells_201 ?_
            refine m_bipush (v := 40) C dX12_bells_204 (by decide) ?_
            refine m_iload_n C dX12_bells_206 rfl rfl ?_
            refine m_imul C dX12_bells_207 ?_
            refine m_topi (fun x92 ex92 => ?_)
            have tx92 : x92.toInt = 40 * a1.toInt := by rw [ex92, ti_mulv kc_40 b_a1 (by decide), kt_40]
            have b93 : IV x92 0 280 := by rw [ex92]; exact iv_mul kc_40 b_a1 (by decide)
            refine m_iload C dX12_bells_208 rfl ?_
            refine m_iadd C dX12_bells_210 ?_
            refine m_topi (fun x94 ex94 => ?_)
            have tx94 : x94.toInt = x92.toInt + x81.toInt := by rw [ex94, ti_addv b93 b82 (by decide)]
            have b95 : IV x94 0 282 := by rw [ex94]; exact iv_add b93 b82 (by decide)
            refine al_25 C b95 (by decide) rfl dX12_bells_211 ?_
            refine m_topi (fun x96 ex96 => ?_)
            refine m_goto (tgt := 228) C dX12_bells_212 (by decide) ?_
            refine m_iadd C dX12_bells_228 ?_
            refine m_topi (fun x97 ex97 => ?_)
            have tx97 : x97.toInt = 0 + x96.toInt := by rw [ex97, ti_addv kc_0 (iv_any x96) (by decide), kt_0]
            have b98 : IV x97 (-2147483648) 2147483647 := by rw [ex97]; exact iv_add kc_0 (iv_any x96) (by decide)
            refine m_istore (L1 := [some (.ref (G.1 22 0)), some (.int a1), some (.int 3), some (.int a3), some (.int 27), some (.int y5), some (.int y6), some (.int y7), some (.int x85), some (.int 9), some (.int x97), some (.int 0), some (.int 0), some (.int x81)]) C dX12_bells_229 (by decide) rfl rfl ?_
            refine m_iload C dX12_bells_231 rfl ?_
            refine m_iload C dX12_bells_233 rfl ?_
            refine m_callS (n := 1) (st := [.int 0]) C (c_X12_sizeOf l G τ (x97) iτ ) q5_96 q5_94 q5_95 q1_7 (by decide +kernel) rfl (by decide) (by decide) rfl (Nat.le_of_ble_eq_true rfl) dX12_bells_235 ?_
            rintro _ τ99 ⟨x102, rfl, i100, f101, b103⟩
            have g104 : Fr MS_X12_bells_3Q AS_X12_bells_3Q σ τ99 := Fr.call (fτ) f101 (by decide)
            show MW p l e _ s m args below meth c _ 14 G 0 0 238 [some (.ref (G.1 22 0)), some (.int a1), some (.int 3), some (.int a3), some (.int 27), some (.int y5), some (.int y6), some (.int y7), some (.int x85), some (.int 9), some (.int x97), some (.int 0), some (.int 0), some (.int x81)] [.int x102, .int 0] τ99
            refine m_callS (n := 2) (st := []) C (c_X12_greater l G τ99 (0) (x102) i100 ) q5_99 q5_97 q5_98 q1_7 (by decide +kernel) rfl (by decide) (by decide) rfl (Nat.le_of_ble_eq_true rfl) dX12_bells_238 ?_
            rintro _ τ106 ⟨x109, rfl, i107, f108, b110⟩
            have g111 : Fr MS_X12_bells_3Q AS_X12_bells_3Q σ τ106 := Fr.call (g104) f108 (by decide)
            show MW p l e _ s m args below meth c _ 14 G 0 0 241 [some (.ref (G.1 22 0)), some (.int a1), some (.int 3), some (.int a3), some (.int 27), some (.int y5), some (.int y6), some (.int y7), some (.int x85), some (.int 9), some (.int x97), some (.int 0), some (.int 0), some (.int x81)] [.int x109] τ106
            refine m_istore (L1 := [some (.ref (G.1 22 0)), some (.int a1), some (.int 3), some (.int a3), some (.int 27), some (.int y5), some (.int y6), some (.int y7), some (.int x85), some (.int 9), some (.int x97), some (.int x109), some (.int 0), some (.int x81)]) C dX12_bells_241 (by decide) rfl rfl ?_
            obtain ⟨x113, ex113⟩ : ∃ y : Int32, y = 0 + 1 := ⟨_, rfl⟩
            have b114 : IV x113 1 1 := by rw [ex113]; decide
            have tx113 : x113.toInt = 1 := by rw [ex113]; decide
            obtain rfl : x113 = 1 := by rw [ex113]; decide
            refine m_iinc (v := 1) (L1 := [some (.ref (G.1 22 0)), some (.int a1), some (.int 3), some (.int a3), some (.int 27), some (.int y5), some (.int y6), some (.int y7), some (.int x85), some (.int 9), some (.int x97), some (.int x109), some (.int 1), some (.int x81)]) C dX12_bells_243 rfl (by decide) (by decide) rfl rfl ?_
            refine m_goto (tgt := 161) C dX12_bells_246 (by decide) ?_
            refine m_iload C dX12_bells_161 rfl ?_
            refine m_iload_n C dX12_bells_163 rfl rfl ?_
            refine m_icmp_ge (tgt := 249) C dX12_bells_164 (by decide) (fun c115 => ?_) (fun c115 => ?_)
            · first | exact absurd c115 (by decide) | exact absurd (by decide) c115
            · have f117 : 1 < 3 := by
                have q : _ := c115
                simp only [ti_nle, ti_nlt, ti_le, ti_lt, ti_eq, ti_ne, Classical.not_not, kt_1, kt_3] at q
                omega
              refine m_iload C dX12_bells_167 rfl ?_
              refine m_iload_n C dX12_bells_169 rfl rfl ?_
              refine m_idiv C dX12_bells_170 (iv_nz kc_3 (by decide)) ?_
              refine m_topi (fun x118 ex118 => ?_)
              have b119 : IV x118 3 3 := by rw [ex118]; decide
              have tx118 : x118.toInt = 3 := by rw [ex118]; decide
              obtain rfl : x118 = 3 := by rw [ex118]; decide
              refine m_istore (L1 := [some (.ref (G.1 22 0)), some (.int a1), some (.int 3), some (.int a3), some (.int 27), some (.int y5), some (.int y6), some (.int y7), some (.int x85), some (.int 3), some (.int x97), some (.int x109), some (.int 1), some (.int x81)]) C dX12_bells_171 (by decide) rfl rfl ?_
              refine m_iload C dX12_bells_173 rfl ?_
              refine m_iload C dX12_bells_175 rfl ?_
              refine m_idiv C dX12_bells_177 (iv_nz kc_3 (by decide)) ?_
              refine m_topi (fun x120 ex120 => ?_)
              have b121 : IV x120 0 8 := by rw [ex120]; exact iv_div b73 kc_3 (by decide)
              refine m_iload_n C dX12_bells_178 rfl rfl ?_
              refine m_irem C dX12_bells_179 (iv_nz kc_3 (by decide)) ?_
              refine m_topi (fun x122 ex122 => ?_)
              have b123 : IV x122 0 2 := by rw [ex122]; exact iv_rem b121 kc_3 (by decide)
              refine m_istore (L1 := [some (.ref (G.1 22 0)), some (.int a1), some (.int 3), some (.int a3), some (.int 27), some (.int y5), some (.int y6), some (.int y7), some (.int x85), some (.int 3), some (.int x97), some (.int x109), some (.int 1), some (.int x122)]) C dX12_bells_180 (by decide) rfl rfl ?_
              refine m_iload C dX12_bells_182 rfl ?_
              refine m_iconst (v := 1) C dX12_bells_184 (by decide) ?_
              refine m_iload C dX12_bells_185 rfl ?_
              refine m_ishl C dX12_bells_187 ?_
              refine m_topi (fun x124 ex124 => ?_)
              have b125 : IV x124 1 4 := by rw [ex124]; exact iv_shl1 b123 (by decide)
              refine m_ior C dX12_bells_188 ?_
              refine m_topi (fun x126 ex126 => ?_)
              have b127 : IV x126 0 7 := by rw [ex126]; exact iv_or 3 b86 b125 (by decide)
              refine m_istore (L1 := [some (.ref (G.1 22 0)), some (.int a1), some (.int 3), some (.int a3), some (.int 27), some (.int y5), some (.int y6), some (.int y7), some (.int x126), some (.int 3), some (.int x97), some (.int x109), some (.int 1), some (.int x122)]) C dX12_bells_189 (by decide) rfl rfl ?_
              refine m_iload C dX12_bells_191 rfl ?_
              refine m_iload C dX12_bells_193 rfl ?_
              refine m_iconst (v := 2) C dX12_bells_195 (by decide) ?_
              refine m_irem C dX12_bells_196 (iv_nz kc_2 (by decide)) ?_
              refine m_topi (fun x128 ex128 => ?_)
              have b129 : IV x128 1 1 := by rw [ex128]; decide
              have tx128 : x128.toInt = 1 := by rw [ex128]; decide
              obtain rfl : x128 = 1 := by rw [ex128]; decide
              refine m_if_ne (tgt := 215) C dX12_bells_197 (by decide) (fun c130 => ?_) (fun c130 => ?_)
              · have f131 : 1 ≠ 0 := by
                  have q : _ := c130
                  simp only [ti_nle, ti_nlt, ti_le, ti_lt, ti_eq, ti_ne, Classical.not_not, kt_1, kt_0] at q
                  omega
                refine m_aload_n C dX12_bells_215 rfl rfl ?_
                refine g_22_2 C q4_118 dX12_bells_216 ?_
                refine m_bipush (v := 40) C dX12_bells_219 (by decide) ?_
                refine m_iload_n C dX12_bells_221 rfl rfl ?_
                refine m_imul C dX12_bells_222 ?_
                refine m_topi (fun x132 ex132 => ?_)
                have tx132 : x132.toInt = 40 * a1.toInt := by rw [ex132, ti_mulv kc_40 b_a1 (by decide), kt_40]
                have b133 : IV x132 0 280 := by rw [ex132]; exact iv_mul kc_40 b_a1 (by decide)
                refine m_iload C dX12_bells_223 rfl ?_
                refine m_iadd C dX12_bells_225 ?_
                refine m_topi (fun x134 ex134 => ?_)
                have tx134 : x134.toInt = x132.toInt + x122.toInt := by rw [ex134, ti_addv b133 b123 (by decide)]
                have b135 : IV x134 0 282 := by rw [ex134]; exact iv_add b133 b123 (by decide)
                refine al_25 C b135 (by decide) rfl dX12_bells_226 ?_
                refine m_topi (fun x136 ex136 => ?_)
                refine m_ineg C dX12_bells_227 ?_
                refine m_topi (fun x137 ex137 => ?_)
                refine m_iadd C dX12_bells_228 ?_
                refine m_topi (fun x138 ex138 => ?_)
                refine m_istore (L1 := [some (.ref (G.1 22 0)), some (.int a1), some (.int 3), some (.int a3), some (.int 27), some (.int y5), some (.int y6), some (.int y7), some (.int x126), some (.int 3), some (.int x138), some (.int x109), some (.int 1), some (.int x122)]) C dX12_bells_229 (by decide) rfl rfl ?_
                refine m_iload C dX12_bells_231 rfl ?_
                refine m_iload C dX12_bells_233 rfl ?_
                refine m_callS (n := 1) (st := [.int x109]) C (c_X12_sizeOf l G τ106 (x138) i107 ) q5_96 q5_94 q5_95 q1_7 (by decide +kernel) rfl (by decide) (by decide) rfl (Nat.le_of_ble_eq_true rfl) dX12_bells_235 ?_
                rintro _ τ139 ⟨x142, rfl, i140, f141, b143⟩
                have g144 : Fr MS_X12_bells_3Q AS_X12_bells_3Q σ τ139 := Fr.call (g111) f141 (by decide)
                show MW p l e _ s m args below meth c _ 14 G 0 0 238 [some (.ref (G.1 22 0)), some (.int a1), some (.int 3), some (.int a3), some (.int 27), some (.int y5), some (.int y6), some (.int y7), some (.int x126), some (.int 3), some (.int x138), some (.int x109), some (.int 1), some (.int x122)] [.int x142, .int x109] τ139
                refine m_callS (n := 2) (st := []) C (c_X12_greater l G τ139 (x109) (x142) i140 ) q5_99 q5_97 q5_98 q1_7 (by decide +kernel) rfl (by decide) (by decide) rfl (Nat.le_of_ble_eq_true rfl) dX12_bells_238 ?_
                rintro _ τ146 ⟨x149, rfl, i147, f148, b150⟩
                have g151 : Fr MS_X12_bells_3Q AS_X12_bells_3Q σ τ146 := Fr.call (g144) f148 (by decide)
                show MW p l e _ s m args below meth c _ 14 G 0 0 241 [some (.ref (G.1 22 0)), some (.int a1), some (.int 3), some (.int a3), some (.int 27), some (.int y5), some (.int y6), some (.int y7), some (.int x126), some (.int 3), some (.int x138), some (.int x109), some (.int 1), some (.int x122)] [.int x149] τ146
                refine m_istore (L1 := [some (.ref (G.1 22 0)), some (.int a1), some (.int 3), some (.int a3), some (.int 27), some (.int y5), some (.int y6), some (.int y7), some (.int x126), some (.int 3), some (.int x138), some (.int x149), some (.int 1), some (.int x122)]) C dX12_bells_241 (by decide) rfl rfl ?_
                obtain ⟨x153, ex153⟩ : ∃ y : Int32, y = 1 + 1 := ⟨_, rfl⟩
                have b154 : IV x153 2 2 := by rw [ex153]; decide
                have tx153 : x153.toInt = 2 := by rw [ex153]; decide
                obtain rfl : x153 = 2 := by rw [ex153]; decide
                refine m_iinc (v := 2) (L1 := [some (.ref (G.1 22 0)), some (.int a1), some (.int 3), some (.int a3), some (.int 27), some (.int y5), some (.int y6), some (.int y7), some (.int x126), some (.int 3), some (.int x138), some (.int x149), some (.int 2), some (.int x122)]) C dX12_bells_243 rfl (by decide) (by decide) rfl rfl ?_
                refine m_goto (tgt := 161) C dX12_bells_246 (by decide) ?_
                refine m_iload C dX12_bells_161 rfl ?_
                refine m_iload_n C dX12_bells_163 rfl rfl ?_
                refine m_icmp_ge (tgt := 249) C dX12_bells_164 (by decide) (fun c155 => ?_) (fun c155 => ?_)
                · first | exact absurd c155 (by decide) | exact absurd (by decide) c155
                · have f157 : 2 < 3 := by
                    have q : _ := c155
                    simp only [ti_nle, ti_nlt, ti_le, ti_lt, ti_eq, ti_ne, Classical.not_not, kt_2, kt_3] at q
                    omega
                  refine m_iload C dX12_bells_167 rfl ?_
                  refine m_iload_n C dX12_bells_169 rfl rfl ?_
                  refine m_idiv C dX12_bells_170 (iv_nz kc_3 (by decide)) ?_
                  refine m_topi (fun x158 ex158 => ?_)
                  have b159 : IV x158 1 1 := by rw [ex158]; decide
                  have tx158 : x158.toInt = 1 := by rw [ex158]; decide
                  obtain rfl : x158 = 1 := by rw [ex158]; decide
                  refine m_istore (L1 := [some (.ref (G.1 22 0)), some (.int a1), some (.int 3), some (.int a3), some (.int 27), some (.int y5), some (.int y6), some (.int y7), some (.int x126), some (.int 1), some (.int x138), some (.int x149), some (.int 2), some (.int x122)]) C dX12_bells_171 (by decide) rfl rfl ?_
                  refine m_iload C dX12_bells_173 rfl ?_
                  refine m_iload C dX12_bells_175 rfl ?_
                  refine m_idiv C dX12_bells_177 (iv_nz kc_1 (by decide)) ?_
                  refine m_topi (fun x160 ex160 => ?_)
                  have b161 : IV x160 0 26 := by rw [ex160]; exact iv_div b73 kc_1 (by decide)
                  refine m_iload_n C dX12_bells_178 rfl rfl ?_
                  refine m_irem C dX12_bells_179 (iv_nz kc_3 (by decide)) ?_
                  refine m_topi (fun x162 ex162 => ?_)
                  have b163 : IV x162 0 2 := by rw [ex162]; exact iv_rem b161 kc_3 (by decide)
                  refine m_istore (L1 := [some (.ref (G.1 22 0)), some (.int a1), some (.int 3), some (.int a3), some (.int 27), some (.int y5), some (.int y6), some (.int y7), some (.int x126), some (.int 1), some (.int x138), some (.int x149), some (.int 2), some (.int x162)]) C dX12_bells_180 (by decide) rfl rfl ?_
                  refine m_iload C dX12_bells_182 rfl ?_
                  refine m_iconst (v := 1) C dX12_bells_184 (by decide) ?_
                  refine m_iload C dX12_bells_185 rfl ?_
                  refine m_ishl C dX12_bells_187 ?_
                  refine m_topi (fun x164 ex164 => ?_)
                  have b165 : IV x164 1 4 := by rw [ex164]; exact iv_shl1 b163 (by decide)
                  refine m_ior C dX12_bells_188 ?_
                  refine m_topi (fun x166 ex166 => ?_)
                  have b167 : IV x166 0 7 := by rw [ex166]; exact iv_or 3 b127 b165 (by decide)
                  refine m_istore (L1 := [some (.ref (G.1 22 0)), some (.int a1), some (.int 3), some (.int a3), some (.int 27), some (.int y5), some (.int y6), some (.int y7), some (.int x166), some (.int 1), some (.int x138), some (.int x149), some (.int 2), some (.int x162)]) C dX12_bells_189 (by decide) rfl rfl ?_
                  refine m_iload C dX12_bells_191 rfl ?_
                  refine m_iload C dX12_bells_193 rfl ?_
                  refine m_iconst (v := 2) C dX12_bells_195 (by decide) ?_
                  refine m_irem C dX12_bells_196 (iv_nz kc_2 (by decide)) ?_
                  refine m_topi (fun x168 ex168 => ?_)
                  have b169 : IV x168 0 0 := by rw [ex168]; decide
                  have tx168 : x168.toInt = 0 := by rw [ex168]; decide
                  obtain rfl : x168 = 0 := by rw [ex168]; decide
                  refine m_if_ne (tgt := 215) C dX12_bells_197 (by decide) (fun c170 => ?_) (fun c170 => ?_)
                  · first | exact absurd c170 (by decide) | exact absurd (by decide) c170
                  · have f172 : 0 = 0 := by
                      have q : _ := c170
                      simp only [ti_nle, ti_nlt, ti_le, ti_lt, ti_eq, ti_ne, Classical.not_not, kt_0, kt_0] at q
                      omega
                    refine m_aload_n C dX12_bells_200 rfl rfl ?_
                    refine g_22_2 C q4_118 dX12_bells_201 ?_
                    refine m_bipush (v := 40) C dX12_bells_204 (by decide) ?_
                    refine m_iload_n C dX12_bells_206 rfl rfl ?_
                    refine m_imul C dX12_bells_207 ?_
                    refine m_topi (fun x173 ex173 => ?_)
                    have tx173 : x173.toInt = 40 * a1.toInt := by rw [ex173, ti_mulv kc_40 b_a1 (by decide), kt_40]
                    have b174 : IV x173 0 280 := by rw [ex173]; exact iv_mul kc_40 b_a1 (by decide)
                    refine m_iload C dX12_bells_208 rfl ?_
                    refine m_iadd C dX12_bells_210 ?_
                    refine m_topi (fun x175 ex175 => ?_)
                    have tx175 : x175.toInt = x173.toInt + x162.toInt := by rw [ex175, ti_addv b174 b163 (by decide)]
                    have b176 : IV x175 0 282 := by rw [ex175]; exact iv_add b174 b163 (by decide)
                    refine al_25 C b176 (by decide) rfl dX12_bells_211 ?_
                    refine m_topi (fun x177 ex177 => ?_)
                    refine m_goto (tgt := 228) C dX12_bells_212 (by decide) ?_
                    refine m_iadd C dX12_bells_228 ?_
                    refine m_topi (fun x178 ex178 => ?_)
                    refine m_istore (L1 := [some (.ref (G.1 22 0)), some (.int a1), some (.int 3), some (.int a3), some (.int 27), some (.int y5), some (.int y6), some (.int y7), some (.int x166), some (.int 1), some (.int x178), some (.int x149), some (.int 2), some (.int x162)]) C dX12_bells_229 (by decide) rfl rfl ?_
                    refine m_iload C dX12_bells_231 rfl ?_
                    refine m_iload C dX12_bells_233 rfl ?_
                    refine m_callS (n := 1) (st := [.int x149]) C (c_X12_sizeOf l G τ146 (x178) i147 ) q5_96 q5_94 q5_95 q1_7 (by decide +kernel) rfl (by decide) (by decide) rfl (Nat.le_of_ble_eq_true rfl) dX12_bells_235 ?_
                    rintro _ τ179 ⟨x182, rfl, i180, f181, b183⟩
                    have g184 : Fr MS_X12_bells_3Q AS_X12_bells_3Q σ τ179 := Fr.call (g151) f181 (by decide)
                    show MW p l e _ s m args below meth c _ 14 G 0 0 238 [some (.ref (G.1 22 0)), some (.int a1), some (.int 3), some (.int a3), some (.int 27), some (.int y5), some (.int y6), some (.int y7), some (.int x166), some (.int 1), some (.int x178), some (.int x149), some (.int 2), some (.int x162)] [.int x182, .int x149] τ179
                    refine m_callS (n := 2) (st := []) C (c_X12_greater l G τ179 (x149) (x182) i180 ) q5_99 q5_97 q5_98 q1_7 (by decide +kernel) rfl (by decide) (by decide) rfl (Nat.le_of_ble_eq_true rfl) dX12_bells_238 ?_
                    rintro _ τ186 ⟨x189, rfl, i187, f188, b190⟩
                    have g191 : Fr MS_X12_bells_3Q AS_X12_bells_3Q σ τ186 := Fr.call (g184) f188 (by decide)
                    show MW p l e _ s m args below meth c _ 14 G 0 0 241 [some (.ref (G.1 22 0)), some (.int a1), some (.int 3), some (.int a3), some (.int 27), some (.int y5), some (.int y6), some (.int y7), some (.int x166), some (.int 1), some (.int x178), some (.int x149), some (.int 2), some (.int x162)] [.int x189] τ186
                    refine m_istore (L1 := [some (.ref (G.1 22 0)), some (.int a1), some (.int 3), some (.int a3), some (.int 27), some (.int y5), some (.int y6), some (.int y7), some (.int x166), some (.int 1), some (.int x178), some (.int x189), some (.int 2), some (.int x162)]) C dX12_bells_241 (by decide) rfl rfl ?_
                    obtain ⟨x193, ex193⟩ : ∃ y : Int32, y = 2 + 1 := ⟨_, rfl⟩
                    have b194 : IV x193 3 3 := by rw [ex193]; decide
                    have tx193 : x193.toInt = 3 := by rw [ex193]; decide
                    obtain rfl : x193 = 3 := by rw [ex193]; decide
                    refine m_iinc (v := 3) (L1 := [some (.ref (G.1 22 0)), some (.int a1), some (.int 3), some (.int a3), some (.int 27), some (.int y5), some (.int y6), some (.int y7), some (.int x166), some (.int 1), some (.int x178), some (.int x189), some (.int 3), some (.int x162)]) C dX12_bells_243 rfl (by decide) (by decide) rfl rfl ?_
                    refine m_goto (tgt := 161) C dX12_bells_246 (by decide) ?_
                    refine m_iload C dX12_bells_161 rfl ?_
                    refine m_iload_n C dX12_bells_163 rfl rfl ?_
                    refine m_icmp_ge (tgt := 249) C dX12_bells_164 (by decide) (fun c195 => ?_) (fun c195 => ?_)
                    · have f196 : 3 ≤ 3 := by
                        have q : _ := c195
                        simp only [ti_nle, ti_nlt, ti_le, ti_lt, ti_eq, ti_ne, Classical.not_not, kt_3, kt_3] at q
                        omega
                      refine m_iload C dX12_bells_249 rfl ?_
                      refine m_iconst (v := 1) C dX12_bells_251 (by decide) ?_
                      refine m_iload_n C dX12_bells_252 rfl rfl ?_
                      refine m_ishl C dX12_bells_253 ?_
                      refine m_topi (fun x197 ex197 => ?_)
                      have b198 : IV x197 8 8 := by rw [ex197]; decide
                      have tx197 : x197.toInt = 8 := by rw [ex197]; decide
                      obtain rfl : x197 = 8 := by rw [ex197]; decide
                      refine m_iconst (v := 1) C dX12_bells_254 (by decide) ?_
                      refine m_isub C dX12_bells_255 ?_
                      refine m_topi (fun x199 ex199 => ?_)
                      have b200 : IV x199 7 7 := by rw [ex199]; decide
                      have tx199 : x199.toInt = 7 := by rw [ex199]; decide
                      obtain rfl : x199 = 7 := by rw [ex199]; decide
                      refine m_icmp_ne (tgt := 279) C dX12_bells_256 (by decide) (fun c201 => ?_) (fun c201 => ?_)
                      · have f202 : x166.toInt ≠ 7 := by
                          have q : _ := c201
                          simp only [ti_nle, ti_nlt, ti_le, ti_lt, ti_eq, ti_ne, Classical.not_not, kt_7] at q
                          omega
                        have b203 : IV x166 0 6 := ⟨by have q1 := b167; have q2 := kc_7; omega, by have q1 := b167; have q2 := kc_7; omega⟩
                        obtain ⟨x204, ex204⟩ : ∃ y : Int32, y = y7 + 1 := ⟨_, rfl⟩
                        have tx204 : x204.toInt = y7.toInt + 1 := by rw [ex204, ti_addv b73 kc_1 (by decide), kt_1]
                        have b205 : IV x204 1 27 := by rw [ex204]; exact iv_add b73 kc_1 (by decide)
                        refine m_iinc (v := x204) (L1 := [some (.ref (G.1 22 0)), some (.int a1), some (.int 3), some (.int a3), some (.int 27), some (.int y5), some (.int y6), some (.int x204), some (.int x166), some (.int 1), some (.int x178), some (.int x189), some (.int 3), some (.int x162)]) C dX12_bells_279 rfl (by rw [ex204]; rfl) (by decide) rfl rfl ?_
                        refine m_goto (tgt := 138) C dX12_bells_282 (by decide) ?_
                        refine m_sub (L1 := [some (.ref (G.1 22 0)), some (.int a1), some (.int 3), some (.int a3), some (.int 27), some (.int y5), some (.int y6), some (.int x204), none, none, none, none, none, none]) ⟨rfl, ⟨rfl, ⟨rfl, ⟨rfl, ⟨rfl, ⟨rfl, ⟨rfl, ⟨rfl, trivial⟩⟩⟩⟩⟩⟩⟩⟩ ?_
                        have q206 : (gV τ186 22 0 8).toInt = (gV τ 22 0 8).toInt := congrArg Int32.toInt (show (gV τ186 22 0 8) = (gV τ 22 0 8) from (show gV τ186 22 0 8 = (gV τ 22 0 8) from (f188.1 22 0 (8) (by decide) (by decide)).trans (show gV τ179 22 0 8 = (gV τ 22 0 8) from (f181.1 22 0 (8) (by decide) (by decide)).trans (show gV τ146 22 0 8 = (gV τ 22 0 8) from (f148.1 22 0 (8) (by decide) (by decide)).trans (show gV τ139 22 0 8 = (gV τ 22 0 8) from (f141.1 22 0 (8) (by decide) (by decide)).trans (show gV τ106 22 0 8 = (gV τ 22 0 8) from (f108.1 22 0 (8) (by decide) (by decide)).trans (show gV τ99 22 0 8 = (gV τ 22 0 8) from (f101.1 22 0 (8) (by decide) (by decide)).trans rfl)))))))
                        have q207 : (gV τ186 26 0 (a1.toInt.toNat)).toInt = (gV τ 26 0 (a1.toInt.toNat)).toInt := congrArg Int32.toInt (show (gV τ186 26 0 (a1.toInt.toNat)) = (gV τ 26 0 (a1.toInt.toNat)) from (show gV τ186 26 0 (a1.toInt.toNat) = (gV τ 26 0 (a1.toInt.toNat)) from (f188.1 26 0 ((a1.toInt.toNat)) (by simp) (by decide)).trans (show gV τ179 26 0 (a1.toInt.toNat) = (gV τ 26 0 (a1.toInt.toNat)) from (f181.1 26 0 ((a1.toInt.toNat)) (by simp) (by decide)).trans (show gV τ146 26 0 (a1.toInt.toNat) = (gV τ 26 0 (a1.toInt.toNat)) from (f148.1 26 0 ((a1.toInt.toNat)) (by simp) (by decide)).trans (show gV τ139 26 0 (a1.toInt.toNat) = (gV τ 26 0 (a1.toInt.toNat)) from (f141.1 26 0 ((a1.toInt.toNat)) (by simp) (by decide)).trans (show gV τ106 26 0 (a1.toInt.toNat) = (gV τ 26 0 (a1.toInt.toNat)) from (f108.1 26 0 ((a1.toInt.toNat)) (by simp) (by decide)).trans (show gV τ99 26 0 (a1.toInt.toNat) = (gV τ 26 0 (a1.toInt.toNat)) from (f101.1 26 0 ((a1.toInt.toNat)) (by simp) (by decide)).trans rfl)))))))
                        have q208 : (gV τ186 27 0 (a1.toInt.toNat)).toInt = (gV τ 27 0 (a1.toInt.toNat)).toInt := congrArg Int32.toInt (show (gV τ186 27 0 (a1.toInt.toNat)) = (gV τ 27 0 (a1.toInt.toNat)) from (show gV τ186 27 0 (a1.toInt.toNat) = (gV τ 27 0 (a1.toInt.toNat)) from (f188.1 27 0 ((a1.toInt.toNat)) (by simp) (by decide)).trans (show gV τ179 27 0 (a1.toInt.toNat) = (gV τ 27 0 (a1.toInt.toNat)) from (f181.1 27 0 ((a1.toInt.toNat)) (by simp) (by decide)).trans (show gV τ146 27 0 (a1.toInt.toNat) = (gV τ 27 0 (a1.toInt.toNat)) from (f148.1 27 0 ((a1.toInt.toNat)) (by simp) (by decide)).trans (show gV τ139 27 0 (a1.toInt.toNat) = (gV τ 27 0 (a1.toInt.toNat)) from (f141.1 27 0 ((a1.toInt.toNat)) (by simp) (by decide)).trans (show gV τ106 27 0 (a1.toInt.toNat) = (gV τ 27 0 (a1.toInt.toNat)) from (f108.1 27 0 ((a1.toInt.toNat)) (by simp) (by decide)).trans (show gV τ99 27 0 (a1.toInt.toNat) = (gV τ 27 0 (a1.toInt.toNat)) from (f101.1 27 0 ((a1.toInt.toNat)) (by simp) (by decide)).trans rfl)))))))
                        exact ih138 τ186 y5 y6 x204 i187 g191 b_a1 b_a3 b_y5 b_y6 (iv_wk b205 (by decide)) (by omega) (by omega) nL (by have q := hm138; omega)
                      · have f209 : x166.toInt = 7 := by
                          have q : _ := c201
                          simp only [ti_nle, ti_nlt, ti_le, ti_lt, ti_eq, ti_ne, Classical.not_not, kt_7] at q
                          omega
                        have b210 : IV x166 7 7 := ⟨by have q1 := b167; have q2 := kc_7; omega, by have q1 := b167; have q2 := kc_7; omega⟩
                        refine m_iload C dX12_bells_259 rfl ?_
                        refine m_if_lt (tgt := 271) C dX12_bells_261 (by decide) (fun c211 => ?_) (fun c211 => ?_)
                        · have f212 : y5.toInt < 0 := by
                            have q : _ := c211
                            simp only [ti_nle, ti_nlt, ti_le, ti_lt, ti_eq, ti_ne, Classical.not_not, kt_0] at q
                            omega
                          have b213 : IV y5 (-1) (-1) := ⟨by have q1 := b_y5; have q2 := kc_0; omega, by have q1 := b_y5; have q2 := kc_0; omega⟩
                          refine m_iload C dX12_bells_271 rfl ?_
                          refine m_istore (L1 := [some (.ref (G.1 22 0)), some (.int a1), some (.int 3), some (.int a3), some (.int 27), some (.int y7), some (.int y6), some (.int y7), some (.int x166), some (.int 1), some (.int x178), some (.int x189), some (.int 3), some (.int x162)]) C dX12_bells_273 (by decide) rfl rfl ?_
                          refine m_iload C dX12_bells_275 rfl ?_
                          refine m_istore (L1 := [some (.ref (G.1 22 0)), some (.int a1), some (.int 3), some (.int a3), some (.int 27), some (.int y7), some (.int x189), some (.int y7), some (.int x166), some (.int 1), some (.int x178), some (.int x189), some (.int 3), some (.int x162)]) C dX12_bells_277 (by decide) rfl rfl ?_
                          obtain ⟨x214, ex214⟩ : ∃ y : Int32, y = y7 + 1 := ⟨_, rfl⟩
                          have tx214 : x214.toInt = y7.toInt + 1 := by rw [ex214, ti_addv b73 kc_1 (by decide), kt_1]
                          have b215 : IV x214 1 27 := by rw [ex214]; exact iv_add b73 kc_1 (by decide)
                          refine m_iinc (v := x214) (L1 := [some (.ref (G.1 22 0)), some (.int a1), some (.int 3), some (.int a3), some (.int 27), some (.int y7), some (.int x189), some (.int x214), some (.int x166), some (.int 1), some (.int x178), some (.int x189), some (.int 3), some (.int x162)]) C dX12_bells_279 rfl (by rw [ex214]; rfl) (by decide) rfl rfl ?_
                          refine m_goto (tgt := 138) C dX12_bells_282 (by decide) ?_
                          refine m_sub (L1 := [some (.ref (G.1 22 0)), some (.int a1), some (.int 3), some (.int a3), some (.int 27), some (.int y7), some (.int x189), some (.int x214), none, none, none, none, none, none]) ⟨rfl, ⟨rfl, ⟨rfl, ⟨rfl, ⟨rfl, ⟨rfl, ⟨rfl, ⟨rfl, trivial⟩⟩⟩⟩⟩⟩⟩⟩ ?_
                          have q216 : (gV τ186 22 0 8).toInt = (gV τ 22 0 8).toInt := congrArg Int32.toInt (show (gV τ186 22 0 8) = (gV τ 22 0 8) from (show gV τ186 22 0 8 = (gV τ 22 0 8) from (f188.1 22 0 (8) (by decide) (by decide)).trans (show gV τ179 22 0 8 = (gV τ 22 0 8) from (f181.1 22 0 (8) (by decide) (by decide)).trans (show gV τ146 22 0 8 = (gV τ 22 0 8) from (f148.1 22 0 (8) (by decide) (by decide)).trans (show gV τ139 22 0 8 = (gV τ 22 0 8) from (f141.1 22 0 (8) (by decide) (by decide)).trans (show gV τ106 22 0 8 = (gV τ 22 0 8) from (f108.1 22 0 (8) (by decide) (by decide)).trans (show gV τ99 22 0 8 = (gV τ 22 0 8) from (f101.1 22 0 (8) (by decide) (by decide)).trans rfl)))))))
                          have q217 : (gV τ186 26 0 (a1.toInt.toNat)).toInt = (gV τ 26 0 (a1.toInt.toNat)).toInt := congrArg Int32.toInt (show (gV τ186 26 0 (a1.toInt.toNat)) = (gV τ 26 0 (a1.toInt.toNat)) from (show gV τ186 26 0 (a1.toInt.toNat) = (gV τ 26 0 (a1.toInt.toNat)) from (f188.1 26 0 ((a1.toInt.toNat)) (by simp) (by decide)).trans (show gV τ179 26 0 (a1.toInt.toNat) = (gV τ 26 0 (a1.toInt.toNat)) from (f181.1 26 0 ((a1.toInt.toNat)) (by simp) (by decide)).trans (show gV τ146 26 0 (a1.toInt.toNat) = (gV τ 26 0 (a1.toInt.toNat)) from (f148.1 26 0 ((a1.toInt.toNat)) (by simp) (by decide)).trans (show gV τ139 26 0 (a1.toInt.toNat) = (gV τ 26 0 (a1.toInt.toNat)) from (f141.1 26 0 ((a1.toInt.toNat)) (by simp) (by decide)).trans (show gV τ106 26 0 (a1.toInt.toNat) = (gV τ 26 0 (a1.toInt.toNat)) from (f108.1 26 0 ((a1.toInt.toNat)) (by simp) (by decide)).trans (show gV τ99 26 0 (a1.toInt.toNat) = (gV τ 26 0 (a1.toInt.toNat)) from (f101.1 26 0 ((a1.toInt.toNat)) (by simp) (by decide)).trans rfl)))))))
                          have q218 : (gV τ186 27 0 (a1.toInt.toNat)).toInt = (gV τ 27 0 (a1.toInt.toNat)).toInt := congrArg Int32.toInt (show (gV τ186 27 0 (a1.toInt.toNat)) = (gV τ 27 0 (a1.toInt.toNat)) from (show gV τ186 27 0 (a1.toInt.toNat) = (gV τ 27 0 (a1.toInt.toNat)) from (f188.1 27 0 ((a1.toInt.toNat)) (by simp) (by decide)).trans (show gV τ179 27 0 (a1.toInt.toNat) = (gV τ 27 0 (a1.toInt.toNat)) from (f181.1 27 0 ((a1.toInt.toNat)) (by simp) (by decide)).trans (show gV τ146 27 0 (a1.toInt.toNat) = (gV τ 27 0 (a1.toInt.toNat)) from (f148.1 27 0 ((a1.toInt.toNat)) (by simp) (by decide)).trans (show gV τ139 27 0 (a1.toInt.toNat) = (gV τ 27 0 (a1.toInt.toNat)) from (f141.1 27 0 ((a1.toInt.toNat)) (by simp) (by decide)).trans (show gV τ106 27 0 (a1.toInt.toNat) = (gV τ 27 0 (a1.toInt.toNat)) from (f108.1 27 0 ((a1.toInt.toNat)) (by simp) (by decide)).trans (show gV τ99 27 0 (a1.toInt.toNat) = (gV τ 27 0 (a1.toInt.toNat)) from (f101.1 27 0 ((a1.toInt.toNat)) (by simp) (by decide)).trans rfl)))))))
                          exact ih138 τ186 y7 x189 x214 i187 g191 b_a1 b_a3 (iv_wk b73 (by decide)) b190 (iv_wk b215 (by decide)) (by omega) (by omega) nL (by have q := hm138; omega)
                        · have f219 : 0 ≤ y5.toInt := by
                            have q : _ := c211
                            simp only [ti_nle, ti_nlt, ti_le, ti_lt, ti_eq, ti_ne, Classical.not_not, kt_0] at q
                            omega
                          have b220 : IV y5 0 40 := ⟨by have q1 := kc_0; have q2 := b_y5; omega, by have q1 := kc_0; have q2 := b_y5; omega⟩
                          refine m_iload C dX12_bells_264 rfl ?_
                          refine m_iload C dX12_bells_266 rfl ?_
                          refine m_icmp_ge (tgt := 279) C dX12_bells_268 (by decide) (fun c221 => ?_) (fun c221 => ?_)
                          · have f222 : y6.toInt ≤ x189.toInt := by
                              have q : _ := c221
                              simp only [ti_nle, ti_nlt, ti_le, ti_lt, ti_eq, ti_ne, Classical.not_not] at q
                              omega
                            obtain ⟨x223, ex223⟩ : ∃ y : Int32, y = y7 + 1 := ⟨_, rfl⟩
                            have tx223 : x223.toInt = y7.toInt + 1 := by rw [ex223, ti_addv b73 kc_1 (by decide), kt_1]
                            have b224 : IV x223 1 27 := by rw [ex223]; exact iv_add b73 kc_1 (by decide)
                            refine m_iinc (v := x223) (L1 := [some (.ref (G.1 22 0)), some (.int a1), some (.int 3), some (.int a3), some (.int 27), some (.int y5), some (.int y6), some (.int x223), some (.int x166), some (.int 1), some (.int x178), some (.int x189), some (.int 3), some (.int x162)]) C dX12_bells_279 rfl (by rw [ex223]; rfl) (by decide) rfl rfl ?_
                            refine m_goto (tgt := 138) C dX12_bells_282 (by decide) ?_
                            refine m_sub (L1 := [some (.ref (G.1 22 0)), some (.int a1), some (.int 3), some (.int a3), some (.int 27), some (.int y5), some (.int y6), some (.int x223), none, none, none, none, none, none]) ⟨rfl, ⟨rfl, ⟨rfl, ⟨rfl, ⟨rfl, ⟨rfl, ⟨rfl, ⟨rfl, trivial⟩⟩⟩⟩⟩⟩⟩⟩ ?_
                            have q225 : (gV τ186 22 0 8).toInt = (gV τ 22 0 8).toInt := congrArg Int32.toInt (show (gV τ186 22 0 8) = (gV τ 22 0 8) from (show gV τ186 22 0 8 = (gV τ 22 0 8) from (f188.1 22 0 (8) (by decide) (by decide)).trans (show gV τ179 22 0 8 = (gV τ 22 0 8) from (f181.1 22 0 (8) (by decide) (by decide)).trans (show gV τ146 22 0 8 = (gV τ 22 0 8) from (f148.1 22 0 (8) (by decide) (by decide)).trans (show gV τ139 22 0 8 = (gV τ 22 0 8) from (f141.1 22 0 (8) (by decide) (by decide)).trans (show gV τ106 22 0 8 = (gV τ 22 0 8) from (f108.1 22 0 (8) (by decide) (by decide)).trans (show gV τ99 22 0 8 = (gV τ 22 0 8) from (f101.1 22 0 (8) (by decide) (by decide)).trans rfl)))))))
                            have q226 : (gV τ186 26 0 (a1.toInt.toNat)).toInt = (gV τ 26 0 (a1.toInt.toNat)).toInt := congrArg Int32.toInt (show (gV τ186 26 0 (a1.toInt.toNat)) = (gV τ 26 0 (a1.toInt.toNat)) from (show gV τ186 26 0 (a1.toInt.toNat) = (gV τ 26 0 (a1.toInt.toNat)) from (f188.1 26 0 ((a1.toInt.toNat)) (by simp) (by decide)).trans (show gV τ179 26 0 (a1.toInt.toNat) = (gV τ 26 0 (a1.toInt.toNat)) from (f181.1 26 0 ((a1.toInt.toNat)) (by simp) (by decide)).trans (show gV τ146 26 0 (a1.toInt.toNat) = (gV τ 26 0 (a1.toInt.toNat)) from (f148.1 26 0 ((a1.toInt.toNat)) (by simp) (by decide)).trans (show gV τ139 26 0 (a1.toInt.toNat) = (gV τ 26 0 (a1.toInt.toNat)) from (f141.1 26 0 ((a1.toInt.toNat)) (by simp) (by decide)).trans (show gV τ106 26 0 (a1.toInt.toNat) = (gV τ 26 0 (a1.toInt.toNat)) from (f108.1 26 0 ((a1.toInt.toNat)) (by simp) (by decide)).trans (show gV τ99 26 0 (a1.toInt.toNat) = (gV τ 26 0 (a1.toInt.toNat)) from (f101.1 26 0 ((a1.toInt.toNat)) (by simp) (by decide)).trans rfl)))))))
                            have q227 : (gV τ186 27 0 (a1.toInt.toNat)).toInt = (gV τ 27 0 (a1.toInt.toNat)).toInt := congrArg Int32.toInt (show (gV τ186 27 0 (a1.toInt.toNat)) = (gV τ 27 0 (a1.toInt.toNat)) from (show gV τ186 27 0 (a1.toInt.toNat) = (gV τ 27 0 (a1.toInt.toNat)) from (f188.1 27 0 ((a1.toInt.toNat)) (by simp) (by decide)).trans (show gV τ179 27 0 (a1.toInt.toNat) = (gV τ 27 0 (a1.toInt.toNat)) from (f181.1 27 0 ((a1.toInt.toNat)) (by simp) (by decide)).trans (show gV τ146 27 0 (a1.toInt.toNat) = (gV τ 27 0 (a1.toInt.toNat)) from (f148.1 27 0 ((a1.toInt.toNat)) (by simp) (by decide)).trans (show gV τ139 27 0 (a1.toInt.toNat) = (gV τ 27 0 (a1.toInt.toNat)) from (f141.1 27 0 ((a1.toInt.toNat)) (by simp) (by decide)).trans (show gV τ106 27 0 (a1.toInt.toNat) = (gV τ 27 0 (a1.toInt.toNat)) from (f108.1 27 0 ((a1.toInt.toNat)) (by simp) (by decide)).trans (show gV τ99 27 0 (a1.toInt.toNat) = (gV τ 27 0 (a1.toInt.toNat)) from (f101.1 27 0 ((a1.toInt.toNat)) (by simp) (by decide)).trans rfl)))))))
                            exact ih138 τ186 y5 y6 x223 i187 g191 b_a1 b_a3 (iv_wk b220 (by decide)) b_y6 (iv_wk b224 (by decide)) (by omega) (by omega) nL (by have q := hm138; omega)
                          · have f228 : x189.toInt < y6.toInt := by
                              have q : _ := c221
                              simp only [ti_nle, ti_nlt, ti_le, ti_lt, ti_eq, ti_ne, Classical.not_not] at q
                              omega
                            have b229 : IV x189 (-2147483648) 2147483646 := ⟨by have q1 := b190; have q2 := b_y6; omega, by have q1 := b190; have q2 := b_y6; omega⟩
                            have b230 : IV y6 (-2147483647) 2147483647 := ⟨by have q1 := b190; have q2 := b_y6; omega, by have q1 := b190; have q2 := b_y6; omega⟩
                            refine m_iload C dX12_bells_271 rfl ?_
                            refine m_istore (L1 := [some (.ref (G.1 22 0)), some (.int a1), some (.int 3), some (.int a3), some (.int 27), some (.int y7), some (.int y6), some (.int y7), some (.int x166), some (.int 1), some (.int x178), some (.int x189), some (.int 3), some (.int x162)]) C dX12_bells_273 (by decide) rfl rfl ?_
                            refine m_iload C dX12_bells_275 rfl ?_
                            refine m_istore (L1 := [some (.ref (G.1 22 0)), some (.int a1), some (.int 3), some (.int a3), some (.int 27), some (.int y7), some (.int x189), some (.int y7), some (.int x166), some (.int 1), some (.int x178), some (.int x189), some (.int 3), some (.int x162)]) C dX12_bells_277 (by decide) rfl rfl ?_
                            obtain ⟨x231, ex231⟩ : ∃ y : Int32, y = y7 + 1 := ⟨_, rfl⟩
                            have tx231 : x231.toInt = y7.toInt + 1 := by rw [ex231, ti_addv b73 kc_1 (by decide), kt_1]
                            have b232 : IV x231 1 27 := by rw [ex231]; exact iv_add b73 kc_1 (by decide)
                            refine m_iinc (v := x231) (L1 := [some (.ref (G.1 22 0)), some (.int a1), some (.int 3), some (.int a3), some (.int 27), some (.int y7), some (.int x189), some (.int x231), some (.int x166), some (.int 1), some (.int x178), some (.int x189), some (.int 3), some (.int x162)]) C dX12_bells_279 rfl (by rw [ex231]; rfl) (by decide) rfl rfl ?_
                            refine m_goto (tgt := 138) C dX12_bells_282 (by decide) ?_
                            refine m_sub (L1 := [some (.ref (G.1 22 0)), some (.int a1), some (.int 3), some (.int a3), some (.int 27), some (.int y7), some (.int x189), some (.int x231), none, none, none, none, none, none]) ⟨rfl, ⟨rfl, ⟨rfl, ⟨rfl, ⟨rfl, ⟨rfl, ⟨rfl, ⟨rfl, trivial⟩⟩⟩⟩⟩⟩⟩⟩ ?_
                            have q233 : (gV τ186 22 0 8).toInt = (gV τ 22 0 8).toInt := congrArg Int32.toInt (show (gV τ186 22 0 8) = (gV τ 22 0 8) from (show gV τ186 22 0 8 = (gV τ 22 0 8) from (f188.1 22 0 (8) (by decide) (by decide)).trans (show gV τ179 22 0 8 = (gV τ 22 0 8) from (f181.1 22 0 (8) (by decide) (by decide)).trans (show gV τ146 22 0 8 = (gV τ 22 0 8) from (f148.1 22 0 (8) (by decide) (by decide)).trans (show gV τ139 22 0 8 = (gV τ 22 0 8) from (f141.1 22 0 (8) (by decide) (by decide)).trans (show gV τ106 22 0 8 = (gV τ 22 0 8) from (f108.1 22 0 (8) (by decide) (by decide)).trans (show gV τ99 22 0 8 = (gV τ 22 0 8) from (f101.1 22 0 (8) (by decide) (by decide)).trans rfl)))))))
                            have q234 : (gV τ186 26 0 (a1.toInt.toNat)).toInt = (gV τ 26 0 (a1.toInt.toNat)).toInt := congrArg Int32.toInt (show (gV τ186 26 0 (a1.toInt.toNat)) = (gV τ 26 0 (a1.toInt.toNat)) from (show gV τ186 26 0 (a1.toInt.toNat) = (gV τ 26 0 (a1.toInt.toNat)) from (f188.1 26 0 ((a1.toInt.toNat)) (by simp) (by decide)).trans (show gV τ179 26 0 (a1.toInt.toNat) = (gV τ 26 0 (a1.toInt.toNat)) from (f181.1 26 0 ((a1.toInt.toNat)) (by simp) (by decide)).trans (show gV τ146 26 0 (a1.toInt.toNat) = (gV τ 26 0 (a1.toInt.toNat)) from (f148.1 26 0 ((a1.toInt.toNat)) (by simp) (by decide)).trans (show gV τ139 26 0 (a1.toInt.toNat) = (gV τ 26 0 (a1.toInt.toNat)) from (f141.1 26 0 ((a1.toInt.toNat)) (by simp) (by decide)).trans (show gV τ106 26 0 (a1.toInt.toNat) = (gV τ 26 0 (a1.toInt.toNat)) from (f108.1 26 0 ((a1.toInt.toNat)) (by simp) (by decide)).trans (show gV τ99 26 0 (a1.toInt.toNat) = (gV τ 26 0 (a1.toInt.toNat)) from (f101.1 26 0 ((a1.toInt.toNat)) (by simp) (by decide)).trans rfl)))))))
                            have q235 : (gV τ186 27 0 (a1.toInt.toNat)).toInt = (gV τ 27 0 (a1.toInt.toNat)).toInt := congrArg Int32.toInt (show (gV τ186 27 0 (a1.toInt.toNat)) = (gV τ 27 0 (a1.toInt.toNat)) from (show gV τ186 27 0 (a1.toInt.toNat) = (gV τ 27 0 (a1.toInt.toNat)) from (f188.1 27 0 ((a1.toInt.toNat)) (by simp) (by decide)).trans (show gV τ179 27 0 (a1.toInt.toNat) = (gV τ 27 0 (a1.toInt.toNat)) from (f181.1 27 0 ((a1.toInt.toNat)) (by simp) (by decide)).trans (show gV τ146 27 0 (a1.toInt.toNat) = (gV τ 27 0 (a1.toInt.toNat)) from (f148.1 27 0 ((a1.toInt.toNat)) (by simp) (by decide)).trans (show gV τ139 27 0 (a1.toInt.toNat) = (gV τ 27 0 (a1.toInt.toNat)) from (f141.1 27 0 ((a1.toInt.toNat)) (by simp) (by decide)).trans (show gV τ106 27 0 (a1.toInt.toNat) = (gV τ 27 0 (a1.toInt.toNat)) from (f108.1 27 0 ((a1.toInt.toNat)) (by simp) (by decide)).trans (show gV τ99 27 0 (a1.toInt.toNat) = (gV τ 27 0 (a1.toInt.toNat)) from (f101.1 27 0 ((a1.toInt.toNat)) (by simp) (by decide)).trans rfl)))))))
                            exact ih138 τ186 y7 x189 x231 i187 g191 b_a1 b_a3 (iv_wk b73 (by decide)) (iv_wk b229 (by decide)) (iv_wk b232 (by decide)) (by omega) (by omega) nL (by have q := hm138; omega)
                    · first | exact absurd c195 (by decide) | exact absurd (by decide) c195
              · first | exact absurd c130 (by decide) | exact absurd (by decide) c130
  have J61 : ∀ (n : Nat) (τ : Sg) (y4 : Int32), Inv τ → Fr MS_X12_bells_3Q AS_X12_bells_3Q σ τ → IV a1 0 7 → IV a3 (-1) 2147483647 → IV y4 0 3 → (((0 ≤ a1.toInt ∧ a1.toInt ≤ 7) ∧ 1 ≤ 3 ∧ 3 ≤ 5 ∧ -1 ≤ a3.toInt ∧ 0 ≤ (gV σ 26 0 (a1.toInt.toNat)).toInt ∧ 3 ≤ (gV σ 27 0 (a1.toInt.toNat)).toInt)) → ((gV τ 22 0 8).toInt = (gV σ 22 0 8).toInt) → (AlJ σ (a1.toInt.toNat) y4.toInt 1 20) → (3 - y4.toInt).toNat < n → MW p l e { frames := 2, cells := 0, slots := 0, locals := 60 } s m args below meth c (MQ below (QP G (PI fun r τ => Inv τ ∧ Fr MS_X12_bells_3Q AS_X12_bells_3Q σ τ ∧ IV r (-2147483648) 2147483647 ∧ BLM σ τ a1 a3 3)) args s 0 0 (aG G)) 14 G 0 0 61 [some (.ref (G.1 22 0)), some (.int a1), some (.int 3), some (.int a3), some (.int y4), none, none, none, none, none, none, none, none, none] [] τ := by
    intro n
    induction n with
    | zero => intro τ y4 iτ fτ b_a1 b_a3 b_y4 n238 n239 nL hm; exact absurd hm (Nat.not_lt_zero _)
    | succ n ih61 =>
      intro τ y4 iτ fτ b_a1 b_a3 b_y4 n238 n239 nL hm61
      have u240 : IV (gV τ 27 0 (a1.toInt.toNat)) 0 40 := iτ.1 27 0 (a1.toInt.toNat)
      refine m_iload C dX12_bells_61 rfl ?_
      refine m_iload_n C dX12_bells_63 rfl rfl ?_
      refine m_icmp_ge (tgt := 99) C dX12_bells_64 (by decide) (fun c241 => ?_) (fun c241 => ?_)
      · have f242 : 3 ≤ y4.toInt := by
          have q : _ := c241
          simp only [ti_nle, ti_nlt, ti_le, ti_lt, ti_eq, ti_ne, Classical.not_not, kt_3] at q
          omega
        have b243 : IV y4 3 3 := ⟨by have q1 := kc_3; have q2 := b_y4; omega, by have q1 := kc_3; have q2 := b_y4; omega⟩
        refine m_aload_n C dX12_bells_99 rfl rfl ?_
        refine m_iconst (v := 0) C dX12_bells_100 (by decide) ?_
        have q244 := kt_0
        refine m_callV (n := 1) (ci := 11) (st := []) C (c_X12_fineQ l G τ (0) iτ ) (by decide) (by decide) rfl rfl rfl q4_201 q4_198 q4_200 q0_27 q1_7 (by decide +kernel) rfl (by decide) (by decide) rfl (Nat.le_of_ble_eq_true rfl) dX12_bells_101 ?_
        rintro _ τ245 ⟨x248, rfl, i246, f247, b249, h251⟩
        have g250 : Fr MS_X12_bells_3Q AS_X12_bells_3Q σ τ245 := Fr.call (fτ) f247 (by decide)
        have q252 : (gV τ245 26 0 (a1.toInt.toNat)).toInt = (gV τ 26 0 (a1.toInt.toNat)).toInt := congrArg Int32.toInt (show (gV τ245 26 0 (a1.toInt.toNat)) = (gV τ 26 0 (a1.toInt.toNat)) from (show gV τ245 26 0 (a1.toInt.toNat) = (gV τ 26 0 (a1.toInt.toNat)) from (f247.1 26 0 ((a1.toInt.toNat)) (by simp) (by decide)).trans rfl))
        have q253 : (gV τ245 27 0 (a1.toInt.toNat)).toInt = (gV τ 27 0 (a1.toInt.toNat)).toInt := congrArg Int32.toInt (show (gV τ245 27 0 (a1.toInt.toNat)) = (gV τ 27 0 (a1.toInt.toNat)) from (show gV τ245 27 0 (a1.toInt.toNat) = (gV τ 27 0 (a1.toInt.toNat)) from (f247.1 27 0 ((a1.toInt.toNat)) (by simp) (by decide)).trans rfl))
        have q254 := kt_0
        show MW p l e _ s m args below meth c _ 14 G 0 0 104 [some (.ref (G.1 22 0)), some (.int a1), some (.int 3), some (.int a3), some (.int y4), none, none, none, none, none, none, none, none, none] [.int x248] τ245
        refine m_pop C dX12_bells_104 rfl ?_
        refine m_iconst (v := 1) C dX12_bells_105 (by decide) ?_
        refine m_istore (L1 := [some (.ref (G.1 22 0)), some (.int a1), some (.int 3), some (.int a3), some (.int 1), none, none, none, none, none, none, none, none, none]) C dX12_bells_106 (by decide) rfl rfl ?_
        refine m_iconst (v := 0) C dX12_bells_108 (by decide) ?_
        refine m_istore (L1 := [some (.ref (G.1 22 0)), some (.int a1), some (.int 3), some (.int a3), some (.int 1), some (.int 0), none, none, none, none, none, none, none, none]) C dX12_bells_109 (by decide) rfl rfl ?_
        refine m_iload C dX12_bells_111 rfl ?_
        refine m_iload_n C dX12_bells_113 rfl rfl ?_
        refine m_icmp_ge (tgt := 129) C dX12_bells_114 (by decide) (fun c255 => ?_) (fun c255 => ?_)
        · first | exact absurd c255 (by decide) | exact absurd (by decide) c255
        · have f257 : 0 < 3 := by
            have q : _ := c255
            simp only [ti_nle, ti_nlt, ti_le, ti_lt, ti_eq, ti_ne, Classical.not_not, kt_0, kt_3] at q
            omega
          refine m_iload C dX12_bells_117 rfl ?_
          refine m_iload_n C dX12_bells_119 rfl rfl ?_
          refine m_imul C dX12_bells_120 ?_
          refine m_topi (fun x258 ex258 => ?_)
          have b259 : IV x258 3 3 := by rw [ex258]; decide
          have tx258 : x258.toInt = 3 := by rw [ex258]; decide
          obtain rfl : x258 = 3 := by rw [ex258]; decide
          refine m_istore (L1 := [some (.ref (G.1 22 0)), some (.int a1), some (.int 3), some (.int a3), some (.int 3), some (.int 0), none, none, none, none, none, none, none, none]) C dX12_bells_121 (by decide) rfl rfl ?_
          obtain ⟨x260, ex260⟩ : ∃ y : Int32, y = 0 + 1 := ⟨_, rfl⟩
          have b261 : IV x260 1 1 := by rw [ex260]; decide
          have tx260 : x260.toInt = 1 := by rw [ex260]; decide
          obtain rfl : x260 = 1 := by rw [ex260]; decide
          refine m_iinc (v := 1) (L1 := [some (.ref (G.1 22 0)), some (.int a1), some (.int 3), some (.int a3), some (.int 3), some (.int 1), none, none, none, none, none, none, none, none]) C dX12_bells_123 rfl (by decide) (by decide) rfl rfl ?_
          refine m_goto (tgt := 111) C dX12_bells_126 (by decide) ?_
          refine m_iload C dX12_bells_111 rfl ?_
          refine m_iload_n C dX12_bells_113 rfl rfl ?_
          refine m_icmp_ge (tgt := 129) C dX12_bells_114 (by decide) (fun c262 => ?_) (fun c262 => ?_)
          · first | exact absurd c262 (by decide) | exact absurd (by decide) c262
          · have f264 : 1 < 3 := by
              have q : _ := c262
              simp only [ti_nle, ti_nlt, ti_le, ti_lt, ti_eq, ti_ne, Classical.not_not, kt_1, kt_3] at q
              omega
            refine m_iload C dX12_bells_117 rfl ?_
            refine m_iload_n C dX12_bells_119 rfl rfl ?_
            refine m_imul C dX12_bells_120 ?_
            refine m_topi (fun x265 ex265 => ?_)
            have b266 : IV x265 9 9 := by rw [ex265]; decide
            have tx265 : x265.toInt = 9 := by rw [ex265]; decide
            obtain rfl : x265 = 9 := by rw [ex265]; decide
            refine m_istore (L1 := [some (.ref (G.1 22 0)), some (.int a1), some (.int 3), some (.int a3), some (.int 9), some (.int 1), none, none, none, none, none, none, none, none]) C dX12_bells_121 (by decide) rfl rfl ?_
            obtain ⟨x267, ex267⟩ : ∃ y : Int32, y = 1 + 1 := ⟨_, rfl⟩
            have b268 : IV x267 2 2 := by rw [ex267]; decide
            have tx267 : x267.toInt = 2 := by rw [ex267]; decide
            obtain rfl : x267 = 2 := by rw [ex267]; decide
            refine m_iinc (v := 2) (L1 := [some (.ref (G.1 22 0)), some (.int a1), some (.int 3), some (.int a3), some (.int 9), some (.int 2), none, none, none, none, none, none, none, none]) C dX12_bells_123 rfl (by decide) (by decide) rfl rfl ?_
            refine m_goto (tgt := 111) C dX12_bells_126 (by decide) ?_
            refine m_iload C dX12_bells_111 rfl ?_
            refine m_iload_n C dX12_bells_113 rfl rfl ?_
            refine m_icmp_ge (tgt := 129) C dX12_bells_114 (by decide) (fun c269 => ?_) (fun c269 => ?_)
            · first | exact absurd c269 (by decide) | exact absurd (by decide) c269
            · have f271 : 2 < 3 := by
                have q : _ := c269
                simp only [ti_nle, ti_nlt, ti_le, ti_lt, ti_eq, ti_ne, Classical.not_not, kt_2, kt_3] at q
                omega
              refine m_iload C dX12_bells_117 rfl ?_
              refine m_iload_n C dX12_bells_119 rfl rfl ?_
              refine m_imul C dX12_bells_120 ?_
              refine m_topi (fun x272 ex272 => ?_)
              have b273 : IV x272 27 27 := by rw [ex272]; decide
              have tx272 : x272.toInt = 27 := by rw [ex272]; decide
              obtain rfl : x272 = 27 := by rw [ex272]; decide
              refine m_istore (L1 := [some (.ref (G.1 22 0)), some (.int a1), some (.int 3), some (.int a3), some (.int 27), some (.int 2), none, none, none, none, none, none, none, none]) C dX12_bells_121 (by decide) rfl rfl ?_
              obtain ⟨x274, ex274⟩ : ∃ y : Int32, y = 2 + 1 := ⟨_, rfl⟩
              have b275 : IV x274 3 3 := by rw [ex274]; decide
              have tx274 : x274.toInt = 3 := by rw [ex274]; decide
              obtain rfl : x274 = 3 := by rw [ex274]; decide
              refine m_iinc (v := 3) (L1 := [some (.ref (G.1 22 0)), some (.int a1), some (.int 3), some (.int a3), some (.int 27), some (.int 3), none, none, none, none, none, none, none, none]) C dX12_bells_123 rfl (by decide) (by decide) rfl rfl ?_
              refine m_goto (tgt := 111) C dX12_bells_126 (by decide) ?_
              refine m_iload C dX12_bells_111 rfl ?_
              refine m_iload_n C dX12_bells_113 rfl rfl ?_
              refine m_icmp_ge (tgt := 129) C dX12_bells_114 (by decide) (fun c276 => ?_) (fun c276 => ?_)
              · have f277 : 3 ≤ 3 := by
                  have q : _ := c276
                  simp only [ti_nle, ti_nlt, ti_le, ti_lt, ti_eq, ti_ne, Classical.not_not, kt_3, kt_3] at q
                  omega
                refine m_iconst (v := (-1)) C dX12_bells_129 (by decide) ?_
                refine m_istore (L1 := [some (.ref (G.1 22 0)), some (.int a1), some (.int 3), some (.int a3), some (.int 27), some (.int (-1)), none, none, none, none, none, none, none, none]) C dX12_bells_130 (by decide) rfl rfl ?_
                refine m_iconst (v := 0) C dX12_bells_132 (by decide) ?_
                refine m_istore (L1 := [some (.ref (G.1 22 0)), some (.int a1), some (.int 3), some (.int a3), some (.int 27), some (.int (-1)), some (.int 0), none, none, none, none, none, none, none]) C dX12_bells_133 (by decide) rfl rfl ?_
                refine m_iconst (v := 0) C dX12_bells_135 (by decide) ?_
                refine m_istore (L1 := [some (.ref (G.1 22 0)), some (.int a1), some (.int 3), some (.int a3), some (.int 27), some (.int (-1)), some (.int 0), some (.int 0), none, none, none, none, none, none]) C dX12_bells_136 (by decide) rfl rfl ?_
                exact J138 ((27 - (0 : Int32).toInt).toNat + 1) τ245 (-1) 0 0 i246 g250 b_a1 b_a3 (iv_wk kc_m1 (by decide)) (iv_wk kc_0 (by decide)) (iv_wk kc_0 (by decide)) (by omega) (by omega) (nL.all (by omega)) (Nat.lt_succ_self _)
              · first | exact absurd c276 (by decide) | exact absurd (by decide) c276
      · have f279 : y4.toInt < 3 := by
          have q : _ := c241
          simp only [ti_nle, ti_nlt, ti_le, ti_lt, ti_eq, ti_ne, Classical.not_not, kt_3] at q
          omega
        have b280 : IV y4 0 2 := ⟨by have q1 := b_y4; have q2 := kc_3; omega, by have q1 := b_y4; have q2 := kc_3; omega⟩
        refine m_aload_n C dX12_bells_67 rfl rfl ?_
        refine g_22_2 C q4_118 dX12_bells_68 ?_
        refine m_bipush (v := 40) C dX12_bells_71 (by decide) ?_
        refine m_iload_n C dX12_bells_73 rfl rfl ?_
        refine m_imul C dX12_bells_74 ?_
        refine m_topi (fun x281 ex281 => ?_)
        have tx281 : x281.toInt = 40 * a1.toInt := by rw [ex281, ti_mulv kc_40 b_a1 (by decide), kt_40]
        have b282 : IV x281 0 280 := by rw [ex281]; exact iv_mul kc_40 b_a1 (by decide)
        refine m_iload C dX12_bells_75 rfl ?_
        refine m_iadd C dX12_bells_77 ?_
        refine m_topi (fun x283 ex283 => ?_)
        have tx283 : x283.toInt = x281.toInt + y4.toInt := by rw [ex283, ti_addv b282 b280 (by decide)]
        have b284 : IV x283 0 282 := by rw [ex283]; exact iv_add b282 b280 (by decide)
        refine al_25 C b284 (by decide) rfl dX12_bells_78 ?_
        refine m_topi (fun x285 ex285 => ?_)
        have q286 : (gV σ 25 0 (40 * (a1.toInt.toNat) + y4.toInt.toNat)).toInt = x285.toInt := by rw [show 40 * (a1.toInt.toNat) + y4.toInt.toNat = (x283.toInt.toNat) by omega, ← (fτ).1 25 0 (x283.toInt.toNat) (by simp) (by decide), show gV τ 25 0 (x283.toInt.toNat) = x285 from ex285.symm]
        refine m_i2l C dX12_bells_79 ?_
        refine m_lconst (v := 1) C dX12_bells_80 (by decide) ?_
        refine m_ldc2 (v := 20) C dX12_bells_81 q5_174 ?_
        refine m_callS (n := 3) (st := []) C (c_X12_in l G τ ((x285 : Int32).toInt64) (1) (20) iτ ) q4_190 q4_188 q4_189 q1_7 (by decide +kernel) rfl (by decide) (by decide) rfl (Nat.le_of_ble_eq_true rfl) dX12_bells_84 ?_
        rintro _ τ287 ⟨x290, rfl, i288, f289, b291, h293⟩
        have g292 : Fr MS_X12_bells_3Q AS_X12_bells_3Q σ τ287 := Fr.call (fτ) f289 (by decide)
        have q294 : (gV τ287 22 0 8).toInt = (gV τ 22 0 8).toInt := congrArg Int32.toInt (show (gV τ287 22 0 8) = (gV τ 22 0 8) from (show gV τ287 22 0 8 = (gV τ 22 0 8) from (f289.1 22 0 (8) (by decide) (by decide)).trans rfl))
        have q295 : (gV τ287 26 0 (a1.toInt.toNat)).toInt = (gV τ 26 0 (a1.toInt.toNat)).toInt := congrArg Int32.toInt (show (gV τ287 26 0 (a1.toInt.toNat)) = (gV τ 26 0 (a1.toInt.toNat)) from (show gV τ287 26 0 (a1.toInt.toNat) = (gV τ 26 0 (a1.toInt.toNat)) from (f289.1 26 0 ((a1.toInt.toNat)) (by simp) (by decide)).trans rfl))
        have q296 : (gV τ287 27 0 (a1.toInt.toNat)).toInt = (gV τ 27 0 (a1.toInt.toNat)).toInt := congrArg Int32.toInt (show (gV τ287 27 0 (a1.toInt.toNat)) = (gV τ 27 0 (a1.toInt.toNat)) from (show gV τ287 27 0 (a1.toInt.toNat) = (gV τ 27 0 (a1.toInt.toNat)) from (f289.1 27 0 ((a1.toInt.toNat)) (by simp) (by decide)).trans rfl))
        have f297 := tl_i x285
        have f298 := kl_1
        have f299 := kl_20
        rcases h293 with ⟨h293_0, h293_1, h293_2⟩ | ⟨h293_0, h293_1⟩
        · skip
          have b300 : IV x290 1 1 := ⟨by omega, by omega⟩
          show MW p l e _ s m args below meth c _ 14 G 0 0 87 [some (.ref (G.1 22 0)), some (.int a1), some (.int 3), some (.int a3), some (.int y4), none, none, none, none, none, none, none, none, none] [.int x290] τ287
          refine m_if_ne (tgt := 93) C dX12_bells_87 (by decide) (fun c301 => ?_) (fun c301 => ?_)
          · have f302 : x290.toInt ≠ 0 := by
              have q : _ := c301
              simp only [ti_nle, ti_nlt, ti_le, ti_lt, ti_eq, ti_ne, Classical.not_not, kt_0] at q
              omega
            have b303 : IV x285 1 20 := ⟨by have q1 := (iv_any x285); omega, by have q1 := (iv_any x285); omega⟩
            obtain ⟨x304, ex304⟩ : ∃ y : Int32, y = y4 + 1 := ⟨_, rfl⟩
            have tx304 : x304.toInt = y4.toInt + 1 := by rw [ex304, ti_addv b280 kc_1 (by decide), kt_1]
            have b305 : IV x304 1 3 := by rw [ex304]; exact iv_add b280 kc_1 (by decide)
            refine m_iinc (v := x304) (L1 := [some (.ref (G.1 22 0)), some (.int a1), some (.int 3), some (.int a3), some (.int x304), none, none, none, none, none, none, none, none, none]) C dX12_bells_93 rfl (by rw [ex304]; rfl) (by decide) rfl rfl ?_
            refine m_goto (tgt := 61) C dX12_bells_96 (by decide) ?_
            exact ih61 τ287 x304 i288 g292 b_a1 b_a3 (iv_wk b305 (by decide)) (by omega) (by omega) (nL.more (k := y4.toInt.toNat) (by omega) (by omega) ⟨by omega, by omega⟩) (by have q := hm61; omega)
          · exfalso
            have q : _ := c301
            simp only [ti_nle, ti_nlt, ti_le, ti_lt, ti_eq, ti_ne, Classical.not_not, kt_0] at q
            have q1 := b300; have q2 := kc_0; omega
        · skip
          have b307 : IV x290 0 0 := ⟨by omega, by omega⟩
          show MW p l e _ s m args below meth c _ 14 G 0 0 87 [some (.ref (G.1 22 0)), some (.int a1), some (.int 3), some (.int a3), some (.int y4), none, none, none, none, none, none, none, none, none] [.int x290] τ287
          refine m_if_ne (tgt := 93) C dX12_bells_87 (by decide) (fun c308 => ?_) (fun c308 => ?_)
          · exfalso
            have q : _ := c308
            simp only [ti_nle, ti_nlt, ti_le, ti_lt, ti_eq, ti_ne, Classical.not_not, kt_0] at q
            have q1 := b307; have q2 := kc_0; omega
          · have f310 : x290.toInt = 0 := by
              have q : _ := c308
              simp only [ti_nle, ti_nlt, ti_le, ti_lt, ti_eq, ti_ne, Classical.not_not, kt_0] at q
              omega
            refine m_ldc (v := (-1000001)) C dX12_bells_90 q4_192 ?_
            exact m_iret C hr hlk (by decide) (by decide) dX12_bells_92 ⟨_, rfl, i288, g292, (iv_wk kc_m1000001 (by decide)), (Or.inr (Or.inr (Or.inr (Or.inl ⟨by have qk := kt_m1000001; omega, by have qk := kt_m1000001; omega, by have qk := kt_m1000001; omega, (fun g => by have q := g y4.toInt.toNat (by omega); omega), by have qk := kt_m1000001; omega⟩))))⟩
  have u311 : IV (gV σ 27 0 (a1.toInt.toNat)) 0 40 := hI.1 27 0 (a1.toInt.toNat)
  refine m_iload_n C dX12_bells_0 rfl rfl ?_
  refine m_callS (n := 1) (st := []) C (c_X12_isRow l G σ (a1) hI ) q4_186 q4_184 q4_185 q1_7 (by decide +kernel) rfl (by decide) (by decide) rfl (Nat.le_of_ble_eq_true rfl) dX12_bells_1 ?_
  rintro _ τ312 ⟨x315, rfl, i313, f314, b316, h318⟩
  have g317 : Fr MS_X12_bells_3Q AS_X12_bells_3Q σ τ312 := Fr.call (Fr.rf) f314 (by decide)
  have q319 : (gV τ312 22 0 8).toInt = (gV σ 22 0 8).toInt := congrArg Int32.toInt (show (gV τ312 22 0 8) = (gV σ 22 0 8) from (show gV τ312 22 0 8 = (gV σ 22 0 8) from (f314.1 22 0 (8) (by decide) (by decide)).trans rfl))
  have q320 : (gV τ312 26 0 (a1.toInt.toNat)).toInt = (gV σ 26 0 (a1.toInt.toNat)).toInt := congrArg Int32.toInt (show (gV τ312 26 0 (a1.toInt.toNat)) = (gV σ 26 0 (a1.toInt.toNat)) from (show gV τ312 26 0 (a1.toInt.toNat) = (gV σ 26 0 (a1.toInt.toNat)) from (f314.1 26 0 ((a1.toInt.toNat)) (by simp) (by decide)).trans rfl))
  have q321 : (gV τ312 27 0 (a1.toInt.toNat)).toInt = (gV σ 27 0 (a1.toInt.toNat)).toInt := congrArg Int32.toInt (show (gV τ312 27 0 (a1.toInt.toNat)) = (gV σ 27 0 (a1.toInt.toNat)) from (show gV τ312 27 0 (a1.toInt.toNat) = (gV σ 27 0 (a1.toInt.toNat)) from (f314.1 27 0 ((a1.toInt.toNat)) (by simp) (by decide)).trans rfl))
  rcases h318 with ⟨h318_0, h318_1, h318_2⟩ | ⟨h318_0, h318_1⟩
  · skip
    have b322 : IV x315 1 1 := ⟨by omega, by omega⟩
    show MW p l e _ s m args below meth c _ 14 G 0 0 4 [some (.ref (G.1 22 0)), some (.int a1), some (.int 3), some (.int a3), none, none, none, none, none, none, none, none, none, none] [.int x315] τ312
    refine m_if_eq (tgt := 24) C dX12_bells_4 (by decide) (fun c323 => ?_) (fun c323 => ?_)
    · exfalso
      have q : _ := c323
      simp only [ti_nle, ti_nlt, ti_le, ti_lt, ti_eq, ti_ne, Classical.not_not, kt_0] at q
      have q1 := b322; have q2 := kc_0; omega
    · have f325 : x315.toInt ≠ 0 := by
        have q : _ := c323
        simp only [ti_nle, ti_nlt, ti_le, ti_lt, ti_eq, ti_ne, Classical.not_not, kt_0] at q
        omega
      have b326 : IV a1 0 7 := ⟨by have q1 := (iv_any a1); omega, by have q1 := (iv_any a1); omega⟩
      refine m_iload_n C dX12_bells_7 rfl rfl ?_
      refine m_i2l C dX12_bells_8 ?_
      refine m_lconst (v := 1) C dX12_bells_9 (by decide) ?_
      refine m_ldc2 (v := 5) C dX12_bells_10 q5_173 ?_
      refine m_callS (n := 3) (st := []) C (c_X12_in l G τ312 ((3 : Int32).toInt64) (1) (5) i313 ) q4_190 q4_188 q4_189 q1_7 (by decide +kernel) rfl (by decide) (by decide) rfl (Nat.le_of_ble_eq_true rfl) dX12_bells_13 ?_
      rintro _ τ327 ⟨x330, rfl, i328, f329, b331, h333⟩
      have g332 : Fr MS_X12_bells_3Q AS_X12_bells_3Q σ τ327 := Fr.call (g317) f329 (by decide)
      have q334 : (gV τ327 22 0 8).toInt = (gV σ 22 0 8).toInt := congrArg Int32.toInt (show (gV τ327 22 0 8) = (gV σ 22 0 8) from (show gV τ327 22 0 8 = (gV σ 22 0 8) from (f329.1 22 0 (8) (by decide) (by decide)).trans (show gV τ312 22 0 8 = (gV σ 22 0 8) from (f314.1 22 0 (8) (by decide) (by decide)).trans rfl)))
      have q335 : (gV τ327 26 0 (a1.toInt.toNat)).toInt = (gV σ 26 0 (a1.toInt.toNat)).toInt := congrArg Int32.toInt (show (gV τ327 26 0 (a1.toInt.toNat)) = (gV σ 26 0 (a1.toInt.toNat)) from (show gV τ327 26 0 (a1.toInt.toNat) = (gV σ 26 0 (a1.toInt.toNat)) from (f329.1 26 0 ((a1.toInt.toNat)) (by simp) (by decide)).trans (show gV τ312 26 0 (a1.toInt.toNat) = (gV σ 26 0 (a1.toInt.toNat)) from (f314.1 26 0 ((a1.toInt.toNat)) (by simp) (by decide)).trans rfl)))
      have q336 : (gV τ327 27 0 (a1.toInt.toNat)).toInt = (gV σ 27 0 (a1.toInt.toNat)).toInt := congrArg Int32.toInt (show (gV τ327 27 0 (a1.toInt.toNat)) = (gV σ 27 0 (a1.toInt.toNat)) from (show gV τ327 27 0 (a1.toInt.toNat) = (gV σ 27 0 (a1.toInt.toNat)) from (f329.1 27 0 ((a1.toInt.toNat)) (by simp) (by decide)).trans (show gV τ312 27 0 (a1.toInt.toNat) = (gV σ 27 0 (a1.toInt.toNat)) from (f314.1 27 0 ((a1.toInt.toNat)) (by simp) (by decide)).trans rfl)))
      have f337 := tl_i 3
      have kf337 := kt_3
      have f338 := kl_1
      have f339 := kl_5
      rcases h333 with ⟨h333_0, h333_1, h333_2⟩ | ⟨h333_0, h333_1⟩
      · skip
        have b340 : IV x330 1 1 := ⟨by omega, by omega⟩
        show MW p l e _ s m args below meth c _ 14 G 0 0 16 [some (.ref (G.1 22 0)), some (.int a1), some (.int 3), some (.int a3), none, none, none, none, none, none, none, none, none, none] [.int x330] τ327
        refine m_if_eq (tgt := 24) C dX12_bells_16 (by decide) (fun c341 => ?_) (fun c341 => ?_)
        · exfalso
          have q : _ := c341
          simp only [ti_nle, ti_nlt, ti_le, ti_lt, ti_eq, ti_ne, Classical.not_not, kt_0] at q
          have q1 := b340; have q2 := kc_0; omega
        · have f343 : x330.toInt ≠ 0 := by
            have q : _ := c341
            simp only [ti_nle, ti_nlt, ti_le, ti_lt, ti_eq, ti_ne, Classical.not_not, kt_0] at q
            omega
          refine m_iload_n C dX12_bells_19 rfl rfl ?_
          refine m_iconst (v := (-1)) C dX12_bells_20 (by decide) ?_
          refine m_icmp_ge (tgt := 27) C dX12_bells_21 (by decide) (fun c344 => ?_) (fun c344 => ?_)
          · have f345 : -1 ≤ a3.toInt := by
              have q : _ := c344
              simp only [ti_nle, ti_nlt, ti_le, ti_lt, ti_eq, ti_ne, Classical.not_not, kt_m1] at q
              omega
            have b346 : IV a3 (-1) 2147483647 := ⟨by have q1 := kc_m1; have q2 := (iv_any a3); omega, by have q1 := kc_m1; have q2 := (iv_any a3); omega⟩
            refine m_aload_n C dX12_bells_27 rfl rfl ?_
            refine g_22_3 C q4_119 dX12_bells_28 ?_
            refine m_iload_n C dX12_bells_31 rfl rfl ?_
            refine al_26 C b326 (by decide) rfl dX12_bells_32 ?_
            refine m_eqs (w := (gV σ 26 0 (a1.toInt.toNat))) (show gV τ327 26 0 (a1.toInt.toNat) = (gV σ 26 0 (a1.toInt.toNat)) from (f329.1 26 0 ((a1.toInt.toNat)) (by simp) (by decide)).trans (show gV τ312 26 0 (a1.toInt.toNat) = (gV σ 26 0 (a1.toInt.toNat)) from (f314.1 26 0 ((a1.toInt.toNat)) (by simp) (by decide)).trans rfl)) ?_
            refine m_if_ge (tgt := 42) C dX12_bells_33 (by decide) (fun c347 => ?_) (fun c347 => ?_)
            · have f348 : 0 ≤ (gV σ 26 0 (a1.toInt.toNat)).toInt := by
                have q : _ := c347
                simp only [ti_nle, ti_nlt, ti_le, ti_lt, ti_eq, ti_ne, Classical.not_not, kt_0] at q
                omega
              have b349 : IV (gV σ 26 0 (a1.toInt.toNat)) 0 2147483647 := ⟨by have q1 := kc_0; have q2 := (iv_any (gV σ 26 0 (a1.toInt.toNat))); omega, by have q1 := kc_0; have q2 := (iv_any (gV σ 26 0 (a1.toInt.toNat))); omega⟩
              refine m_aload_n C dX12_bells_42 rfl rfl ?_
              refine g_22_4 C q4_120 dX12_bells_43 ?_
              refine m_iload_n C dX12_bells_46 rfl rfl ?_
              refine al_27 C b326 (by decide) rfl dX12_bells_47 ?_
              refine m_eqs (w := (gV σ 27 0 (a1.toInt.toNat))) (show gV τ327 27 0 (a1.toInt.toNat) = (gV σ 27 0 (a1.toInt.toNat)) from (f329.1 27 0 ((a1.toInt.toNat)) (by simp) (by decide)).trans (show gV τ312 27 0 (a1.toInt.toNat) = (gV σ 27 0 (a1.toInt.toNat)) from (f314.1 27 0 ((a1.toInt.toNat)) (by simp) (by decide)).trans rfl)) ?_
              refine m_iload_n C dX12_bells_48 rfl rfl ?_
              refine m_icmp_ge (tgt := 58) C dX12_bells_49 (by decide) (fun c350 => ?_) (fun c350 => ?_)
              · have f351 : 3 ≤ (gV σ 27 0 (a1.toInt.toNat)).toInt := by
                  have q : _ := c350
                  simp only [ti_nle, ti_nlt, ti_le, ti_lt, ti_eq, ti_ne, Classical.not_not, kt_3] at q
                  omega
                have b352 : IV (gV σ 27 0 (a1.toInt.toNat)) 3 40 := ⟨by have q1 := kc_3; have q2 := u311; omega, by have q1 := kc_3; have q2 := u311; omega⟩
                refine m_iconst (v := 0) C dX12_bells_58 (by decide) ?_
                refine m_istore (L1 := [some (.ref (G.1 22 0)), some (.int a1), some (.int 3), some (.int a3), some (.int 0), none, none, none, none, none, none, none, none, none]) C dX12_bells_59 (by decide) rfl rfl ?_
                exact J61 ((3 - (0 : Int32).toInt).toNat + 1) τ327 0 i328 g332 b326 b346 (iv_wk kc_0 (by decide)) (by omega) (by omega) (AlJ.zero (by have q := kt_0; omega)) (Nat.lt_succ_self _)
              · have f353 : (gV σ 27 0 (a1.toInt.toNat)).toInt < 3 := by
                  have q : _ := c350
                  simp only [ti_nle, ti_nlt, ti_le, ti_lt, ti_eq, ti_ne, Classical.not_not, kt_3] at q
                  omega
                have b354 : IV (gV σ 27 0 (a1.toInt.toNat)) 0 2 := ⟨by have q1 := u311; have q2 := kc_3; omega, by have q1 := u311; have q2 := kc_3; omega⟩
                refine m_aload_n C dX12_bells_52 rfl rfl ?_
                refine m_iconst (v := 2) C dX12_bells_53 (by decide) ?_
                have q355 := kt_2
                refine m_callV (n := 1) (ci := 11) (st := []) C (c_X12_metQ l G τ327 (2) i328 (iv_wk kc_2 (by decide))) (by decide) (by decide) rfl rfl rfl q4_196 q4_193 q4_195 q0_26 q1_7 (by decide +kernel) rfl (by decide) (by decide) rfl (Nat.le_of_ble_eq_true rfl) dX12_bells_54 ?_
                rintro _ τ356 ⟨x359, rfl, i357, f358, b360, h362⟩
                have g361 : Fr MS_X12_bells_3Q AS_X12_bells_3Q σ τ356 := Fr.call (g332) f358 (by decide)
                have q363 : (gV τ356 26 0 (a1.toInt.toNat)).toInt = (gV σ 26 0 (a1.toInt.toNat)).toInt := congrArg Int32.toInt (show (gV τ356 26 0 (a1.toInt.toNat)) = (gV σ 26 0 (a1.toInt.toNat)) from (show gV τ356 26 0 (a1.toInt.toNat) = (gV σ 26 0 (a1.toInt.toNat)) from (f358.1 26 0 ((a1.toInt.toNat)) (by simp) (by decide)).trans (show gV τ327 26 0 (a1.toInt.toNat) = (gV σ 26 0 (a1.toInt.toNat)) from (f329.1 26 0 ((a1.toInt.toNat)) (by simp) (by decide)).trans (show gV τ312 26 0 (a1.toInt.toNat) = (gV σ 26 0 (a1.toInt.toNat)) from (f314.1 26 0 ((a1.toInt.toNat)) (by simp) (by decide)).trans rfl))))
                have q364 : (gV τ356 27 0 (a1.toInt.toNat)).toInt = (gV σ 27 0 (a1.toInt.toNat)).toInt := congrArg Int32.toInt (show (gV τ356 27 0 (a1.toInt.toNat)) = (gV σ 27 0 (a1.toInt.toNat)) from (show gV τ356 27 0 (a1.toInt.toNat) = (gV σ 27 0 (a1.toInt.toNat)) from (f358.1 27 0 ((a1.toInt.toNat)) (by simp) (by decide)).trans (show gV τ327 27 0 (a1.toInt.toNat) = (gV σ 27 0 (a1.toInt.toNat)) from (f329.1 27 0 ((a1.toInt.toNat)) (by simp) (by decide)).trans (show gV τ312 27 0 (a1.toInt.toNat) = (gV σ 27 0 (a1.toInt.toNat)) from (f314.1 27 0 ((a1.toInt.toNat)) (by simp) (by decide)).trans rfl))))
                have q365 := kt_2
                show MW p l e _ s m args below meth c _ 14 G 0 0 57 [some (.ref (G.1 22 0)), some (.int a1), some (.int 3), some (.int a3), none, none, none, none, none, none, none, none, none, none] [.int x359] τ356
                exact m_iret C hr hlk (by decide) (by decide) dX12_bells_57 ⟨_, rfl, i357, g361, (iv_wk b360 (by decide)), (Or.inr (Or.inr (Or.inl ⟨by omega, by omega, by omega, by omega⟩)))⟩
            · have f366 : (gV σ 26 0 (a1.toInt.toNat)).toInt < 0 := by
                have q : _ := c347
                simp only [ti_nle, ti_nlt, ti_le, ti_lt, ti_eq, ti_ne, Classical.not_not, kt_0] at q
                omega
              have b367 : IV (gV σ 26 0 (a1.toInt.toNat)) (-2147483648) (-1) := ⟨by have q1 := (iv_any (gV σ 26 0 (a1.toInt.toNat))); have q2 := kc_0; omega, by have q1 := (iv_any (gV σ 26 0 (a1.toInt.toNat))); have q2 := kc_0; omega⟩
              refine m_aload_n C dX12_bells_36 rfl rfl ?_
              refine m_iconst (v := 1) C dX12_bells_37 (by decide) ?_
              have q368 := kt_1
              refine m_callV (n := 1) (ci := 11) (st := []) C (c_X12_metQ l G τ327 (1) i328 (iv_wk kc_1 (by decide))) (by decide) (by decide) rfl rfl rfl q4_196 q4_193 q4_195 q0_26 q1_7 (by decide +kernel) rfl (by decide) (by decide) rfl (Nat.le_of_ble_eq_true rfl) dX12_bells_38 ?_
              rintro _ τ369 ⟨x372, rfl, i370, f371, b373, h375⟩
              have g374 : Fr MS_X12_bells_3Q AS_X12_bells_3Q σ τ369 := Fr.call (g332) f371 (by decide)
              have q376 : (gV τ369 26 0 (a1.toInt.toNat)).toInt = (gV σ 26 0 (a1.toInt.toNat)).toInt := congrArg Int32.toInt (show (gV τ369 26 0 (a1.toInt.toNat)) = (gV σ 26 0 (a1.toInt.toNat)) from (show gV τ369 26 0 (a1.toInt.toNat) = (gV σ 26 0 (a1.toInt.toNat)) from (f371.1 26 0 ((a1.toInt.toNat)) (by simp) (by decide)).trans (show gV τ327 26 0 (a1.toInt.toNat) = (gV σ 26 0 (a1.toInt.toNat)) from (f329.1 26 0 ((a1.toInt.toNat)) (by simp) (by decide)).trans (show gV τ312 26 0 (a1.toInt.toNat) = (gV σ 26 0 (a1.toInt.toNat)) from (f314.1 26 0 ((a1.toInt.toNat)) (by simp) (by decide)).trans rfl))))
              have q377 : (gV τ369 27 0 (a1.toInt.toNat)).toInt = (gV σ 27 0 (a1.toInt.toNat)).toInt := congrArg Int32.toInt (show (gV τ369 27 0 (a1.toInt.toNat)) = (gV σ 27 0 (a1.toInt.toNat)) from (show gV τ369 27 0 (a1.toInt.toNat) = (gV σ 27 0 (a1.toInt.toNat)) from (f371.1 27 0 ((a1.toInt.toNat)) (by simp) (by decide)).trans (show gV τ327 27 0 (a1.toInt.toNat) = (gV σ 27 0 (a1.toInt.toNat)) from (f329.1 27 0 ((a1.toInt.toNat)) (by simp) (by decide)).trans (show gV τ312 27 0 (a1.toInt.toNat) = (gV σ 27 0 (a1.toInt.toNat)) from (f314.1 27 0 ((a1.toInt.toNat)) (by simp) (by decide)).trans rfl))))
              have q378 := kt_1
              show MW p l e _ s m args below meth c _ 14 G 0 0 41 [some (.ref (G.1 22 0)), some (.int a1), some (.int 3), some (.int a3), none, none, none, none, none, none, none, none, none, none] [.int x372] τ369
              exact m_iret C hr hlk (by decide) (by decide) dX12_bells_41 ⟨_, rfl, i370, g374, (iv_wk b373 (by decide)), (Or.inr (Or.inl ⟨by omega, by omega, by omega⟩))⟩
          · have f379 : a3.toInt < -1 := by
              have q : _ := c344
              simp only [ti_nle, ti_nlt, ti_le, ti_lt, ti_eq, ti_ne, Classical.not_not, kt_m1] at q
              omega
            have b380 : IV a3 (-2147483648) (-2) := ⟨by have q1 := (iv_any a3); have q2 := kc_m1; omega, by have q1 := (iv_any a3); have q2 := kc_m1; omega⟩
            refine m_ldc (v := (-1000001)) C dX12_bells_24 q4_192 ?_
            exact m_iret C hr hlk (by decide) (by decide) dX12_bells_26 ⟨_, rfl, i328, g332, (iv_wk kc_m1000001 (by decide)), (Or.inl ⟨by have qk := kt_m1000001; omega, by have qk := kt_m1000001; omega⟩)⟩
      · skip
        have b381 : IV x330 0 0 := ⟨by omega, by omega⟩
        show MW p l e _ s m args below meth c _ 14 G 0 0 16 [some (.ref (G.1 22 0)), some (.int a1), some (.int 3), some (.int a3), none, none, none, none, none, none, none, none, none, none] [.int x330] τ327
        refine m_if_eq (tgt := 24) C dX12_bells_16 (by decide) (fun c382 => ?_) (fun c382 => ?_)
        · have f383 : x330.toInt = 0 := by
            have q : _ := c382
            simp only [ti_nle, ti_nlt, ti_le, ti_lt, ti_eq, ti_ne, Classical.not_not, kt_0] at q
            omega
          refine m_ldc (v := (-1000001)) C dX12_bells_24 q4_192 ?_
          exact m_iret C hr hlk (by decide) (by decide) dX12_bells_26 ⟨_, rfl, i328, g332, (iv_wk kc_m1000001 (by decide)), (Or.inl ⟨by have qk := kt_m1000001; omega, by have qk := kt_m1000001; omega⟩)⟩
        · exfalso
          have q : _ := c382
          simp only [ti_nle, ti_nlt, ti_le, ti_lt, ti_eq, ti_ne, Classical.not_not, kt_0] at q
          have q1 := b381; have q2 := kc_0; omega
  · skip
    have b385 : IV x315 0 0 := ⟨by omega, by omega⟩
    show MW p l e _ s m args below meth c _ 14 G 0 0 4 [some (.ref (G.1 22 0)), some (.int a1), some (.int 3), some (.int a3), none, none, none, none, none, none, none, none, none, none] [.int x315] τ312
    refine m_if_eq (tgt := 24) C dX12_bells_4 (by decide) (fun c386 => ?_) (fun c386 => ?_)
    · have f387 : x315.toInt = 0 := by
        have q : _ := c386
        simp only [ti_nle, ti_nlt, ti_le, ti_lt, ti_eq, ti_ne, Classical.not_not, kt_0] at q
        omega
      refine m_ldc (v := (-1000001)) C dX12_bells_24 q4_192 ?_
      exact m_iret C hr hlk (by decide) (by decide) dX12_bells_26 ⟨_, rfl, i313, g317, (iv_wk kc_m1000001 (by decide)), (Or.inl ⟨by have qk := kt_m1000001; omega, by have qk := kt_m1000001; omega⟩)⟩
    · exfalso
      have q : _ := c386
      simp only [ti_nle, ti_nlt, ti_le, ti_lt, ti_eq, ti_ne, Classical.not_not, kt_0] at q
      have q1 := b385; have q2 := kc_0; omega
