abbrev MS_X11_dropE : List (Nat × Nat) := [(0, 12), (20, 1), (20, 2)]
abbrev AS_X11_dropE : List Nat := []
set_option maxHeartbeats 4000000 in
set_option maxRecDepth 100000 in
theorem c_X11_dropE (l : Launch) (G : Gt) (σ : Sg) (a1 : Int32) (hI : Inv σ) : Mc l G yX11_drop cX11_drop 4 (some .int) 1 21 0 0 [.ref (G.1 0 0), .int a1] σ (PI fun r τ => Inv τ ∧ Fr MS_X11_dropE AS_X11_dropE σ τ ∧ IV r (-2147483648) 2147483647 ∧ (((a1.toInt < 0 ∨ 7 < a1.toInt) ∧ r.toInt = -1000001 ∧ SameR σ τ) ∨ ((0 ≤ a1.toInt ∧ a1.toInt ≤ 7) ∧ (gV σ 20 (a1.toInt.toNat) 1).toInt = -1 ∧ r.toInt = -1000011 ∧ SameR σ τ) ∨ ((0 ≤ a1.toInt ∧ a1.toInt ≤ 7) ∧ ¬ ((gV σ 20 (a1.toInt.toNat) 1).toInt = -1) ∧ r.toInt = (gV σ 20 (a1.toInt.toNat) 2).toInt ∧ BG σ τ (a1.toInt.toNat) (-1) 0))) := by
  refine Mc.of (L0 := [some (.ref (G.1 0 0)), some (.int a1), none, none]) (by decide) (Nat.le_of_ble_eq_true rfl) rfl ?_
  intro p e s m args below meth c C hr hlk
  have C : Cx p s m args c cX11_drop 4 "LeanTower" := C
  have k0 : (0 : Int32).toInt = 0 := by decide
  have k1 : (1 : Int32).toInt = 1 := by decide
  have u1 : IV (gV σ 20 (a1.toInt.toNat) 2) 0 40 := hI.1 20 (a1.toInt.toNat) 2
  refine m_aload_n C dX11_drop_0 rfl rfl ?_
  refine m_iload_n C dX11_drop_1 rfl rfl ?_
  refine m_callV (n := 1) (ci := 10) (st := []) C (c_X11_rowAt l G σ (a1) hI ) (by decide) (by decide) rfl rfl rfl q1_233 q1_230 q1_232 q0_0 q1_1 (by decide +kernel) rfl (by decide) (by decide) rfl (Nat.le_of_ble_eq_true rfl) dX11_drop_2 ?_
  rintro _ τ2 ⟨x5, rfl, i3, f4, h8⟩
  have g7 : Fr MS_X11_dropE AS_X11_dropE σ τ2 := Fr.call (Fr.rf) f4 (by decide)
  have q9 : (gV τ2 20 (a1.toInt.toNat) 1).toInt = (gV σ 20 (a1.toInt.toNat) 1).toInt := congrArg Int32.toInt (show (gV τ2 20 (a1.toInt.toNat) 1) = (gV σ 20 (a1.toInt.toNat) 1) from (show gV τ2 20 (a1.toInt.toNat) 1 = (gV σ 20 (a1.toInt.toNat) 1) from (f4.1 20 (a1.toInt.toNat) (1) (by decide) (by decide)).trans rfl))
  have q10 : (gV τ2 20 (a1.toInt.toNat) 2).toInt = (gV σ 20 (a1.toInt.toNat) 2).toInt := congrArg Int32.toInt (show (gV τ2 20 (a1.toInt.toNat) 2) = (gV σ 20 (a1.toInt.toNat) 2) from (show gV τ2 20 (a1.toInt.toNat) 2 = (gV σ 20 (a1.toInt.toNat) 2) from (f4.1 20 (a1.toInt.toNat) (2) (by decide) (by decide)).trans rfl))
  rcases h8 with ⟨rfl, x5q⟩ | ⟨rfl, x5q⟩
  · skip
    show MW p l e _ s m args below meth c _ 4 G 0 0 5 [some (.ref (G.1 0 0)), some (.int a1), none, none] [.null] τ2
    refine m_astore_nN (L1 := [some (.ref (G.1 0 0)), some (.int a1), some (.null), none]) C dX11_drop_5 rfl (by decide) rfl rfl ?_
    refine m_aload_nN C dX11_drop_6 rfl rfl ?_
    refine m_ifnonnullN C dX11_drop_7 ?_
    refine m_ldc (v := (-1000001)) C dX11_drop_10 q1_234 ?_
    exact m_iret C hr hlk (by decide) (by decide) dX11_drop_12 ⟨_, rfl, i3, g7, (iv_wk kc_m1000001 (by decide)), (Or.inl ⟨by omega, (by have q := kt_m1000001; omega), (SameR.rf.fr f4 (by simp) (by decide))⟩)⟩
  · have b11 : IV a1 0 7 := ⟨by have q1 := (iv_any a1); omega, by have q1 := (iv_any a1); omega⟩
    show MW p l e _ s m args below meth c _ 4 G 0 0 5 [some (.ref (G.1 0 0)), some (.int a1), none, none] [.ref (G.1 20 (a1.toInt.toNat))] τ2
    refine m_astore_n (L1 := [some (.ref (G.1 0 0)), some (.int a1), some (.ref (G.1 20 (a1.toInt.toNat))), none]) C dX11_drop_5 rfl (by decide) rfl rfl ?_
    refine m_aload_n C dX11_drop_6 rfl rfl ?_
    refine m_ifnonnull (tgt := 13) C dX11_drop_7 (by decide) ?_
    refine m_aload_n C dX11_drop_13 rfl rfl ?_
    refine m_callV (n := 0) (ci := 6) (st := []) C (c_X7_isMissingE l G τ2 (j := (a1.toInt.toNat)) (iv_nat b11 (by decide))  i3 ) (by decide) (iv_nat b11 (by decide)) rfl rfl rfl q2_15 q2_12 q2_13 q2_14 q1_6 (by decide +kernel) rfl (by decide) (by decide) rfl (Nat.le_of_ble_eq_true rfl) dX11_drop_14 ?_
    rintro _ τ12 ⟨x15, rfl, i13, f14, b16, h18⟩
    have g17 : Fr MS_X11_dropE AS_X11_dropE σ τ12 := Fr.call (g7) f14 (by decide)
    have q19 : (gV τ12 20 (a1.toInt.toNat) 1).toInt = (gV σ 20 (a1.toInt.toNat) 1).toInt := congrArg Int32.toInt (show (gV τ12 20 (a1.toInt.toNat) 1) = (gV σ 20 (a1.toInt.toNat) 1) from (show gV τ12 20 (a1.toInt.toNat) 1 = (gV σ 20 (a1.toInt.toNat) 1) from (f14.1 20 (a1.toInt.toNat) (1) (by decide) (by decide)).trans (show gV τ2 20 (a1.toInt.toNat) 1 = (gV σ 20 (a1.toInt.toNat) 1) from (f4.1 20 (a1.toInt.toNat) (1) (by decide) (by decide)).trans rfl)))
    have q20 : (gV τ12 20 (a1.toInt.toNat) 2).toInt = (gV σ 20 (a1.toInt.toNat) 2).toInt := congrArg Int32.toInt (show (gV τ12 20 (a1.toInt.toNat) 2) = (gV σ 20 (a1.toInt.toNat) 2) from (show gV τ12 20 (a1.toInt.toNat) 2 = (gV σ 20 (a1.toInt.toNat) 2) from (f14.1 20 (a1.toInt.toNat) (2) (by decide) (by decide)).trans (show gV τ2 20 (a1.toInt.toNat) 2 = (gV σ 20 (a1.toInt.toNat) 2) from (f4.1 20 (a1.toInt.toNat) (2) (by decide) (by decide)).trans rfl)))
    rcases h18 with ⟨h18_0, h18_1⟩ | ⟨h18_0, h18_1⟩
    · skip
      have b21 : IV x15 1 1 := ⟨by omega, by omega⟩
      show MW p l e _ s m args below meth c _ 4 G 0 0 17 [some (.ref (G.1 0 0)), some (.int a1), some (.ref (G.1 20 (a1.toInt.toNat))), none] [.int x15] τ12
      refine m_if_eq (tgt := 26) C dX11_drop_17 (by decide) (fun c22 => ?_) (fun c22 => ?_)
      · exfalso
        have q : _ := c22
        simp only [ti_nle, ti_nlt, ti_le, ti_lt, ti_eq, ti_ne, Classical.not_not, kt_0] at q
        have q1 := b21; have q2 := kc_0; omega
      · have f24 : x15.toInt ≠ 0 := by
          have q : _ := c22
          simp only [ti_nle, ti_nlt, ti_le, ti_lt, ti_eq, ti_ne, Classical.not_not, kt_0] at q
          omega
        refine m_aload_n C dX11_drop_20 rfl rfl ?_
        refine m_iconst (v := 1) C dX11_drop_21 (by decide) ?_
        refine m_callV (n := 1) (ci := 10) (st := []) C (c_X11_found l G τ12 (1) i13 (iv_wk kc_1 (by decide))) (by decide) (by decide) rfl rfl rfl q1_238 q1_235 q1_237 q0_1 q1_1 (by decide +kernel) rfl (by decide) (by decide) rfl (Nat.le_of_ble_eq_true rfl) dX11_drop_22 ?_
        rintro _ τ25 ⟨x28, rfl, i26, f27, b29, h31⟩
        have g30 : Fr MS_X11_dropE AS_X11_dropE σ τ25 := Fr.call (g17) f27 (by decide)
        have q32 : (gV τ25 20 (a1.toInt.toNat) 1).toInt = (gV σ 20 (a1.toInt.toNat) 1).toInt := congrArg Int32.toInt (show (gV τ25 20 (a1.toInt.toNat) 1) = (gV σ 20 (a1.toInt.toNat) 1) from (show gV τ25 20 (a1.toInt.toNat) 1 = (gV σ 20 (a1.toInt.toNat) 1) from (f27.1 20 (a1.toInt.toNat) (1) (by decide) (by decide)).trans (show gV τ12 20 (a1.toInt.toNat) 1 = (gV σ 20 (a1.toInt.toNat) 1) from (f14.1 20 (a1.toInt.toNat) (1) (by decide) (by decide)).trans (show gV τ2 20 (a1.toInt.toNat) 1 = (gV σ 20 (a1.toInt.toNat) 1) from (f4.1 20 (a1.toInt.toNat) (1) (by decide) (by decide)).trans rfl))))
        have q33 : (gV τ25 20 (a1.toInt.toNat) 2).toInt = (gV σ 20 (a1.toInt.toNat) 2).toInt := congrArg Int32.toInt (show (gV τ25 20 (a1.toInt.toNat) 2) = (gV σ 20 (a1.toInt.toNat) 2) from (show gV τ25 20 (a1.toInt.toNat) 2 = (gV σ 20 (a1.toInt.toNat) 2) from (f27.1 20 (a1.toInt.toNat) (2) (by decide) (by decide)).trans (show gV τ12 20 (a1.toInt.toNat) 2 = (gV σ 20 (a1.toInt.toNat) 2) from (f14.1 20 (a1.toInt.toNat) (2) (by decide) (by decide)).trans (show gV τ2 20 (a1.toInt.toNat) 2 = (gV σ 20 (a1.toInt.toNat) 2) from (f4.1 20 (a1.toInt.toNat) (2) (by decide) (by decide)).trans rfl))))
        have q34 := kt_1
        show MW p l e _ s m args below meth c _ 4 G 0 0 25 [some (.ref (G.1 0 0)), some (.int a1), some (.ref (G.1 20 (a1.toInt.toNat))), none] [.int x28] τ25
        exact m_iret C hr hlk (by decide) (by decide) dX11_drop_25 ⟨_, rfl, i26, g30, (iv_wk b29 (by decide)), (Or.inr (Or.inl ⟨by omega, by omega, by omega, (((SameR.rf.fr f4 (by simp) (by decide)).fr f14 (by simp) (by decide)).fr f27 (by simp) (by decide))⟩))⟩
    · skip
      have b35 : IV x15 0 0 := ⟨by omega, by omega⟩
      show MW p l e _ s m args below meth c _ 4 G 0 0 17 [some (.ref (G.1 0 0)), some (.int a1), some (.ref (G.1 20 (a1.toInt.toNat))), none] [.int x15] τ12
      refine m_if_eq (tgt := 26) C dX11_drop_17 (by decide) (fun c36 => ?_) (fun c36 => ?_)
      · have f37 : x15.toInt = 0 := by
          have q : _ := c36
          simp only [ti_nle, ti_nlt, ti_le, ti_lt, ti_eq, ti_ne, Classical.not_not, kt_0] at q
          omega
        refine m_aload_n C dX11_drop_26 rfl rfl ?_
        refine g_20_2 C (iv_nat b11 (by decide)) q1_177 dX11_drop_27 ?_
        refine m_eqs (w := (gV σ 20 (a1.toInt.toNat) 2)) (show gV τ12 20 (a1.toInt.toNat) 2 = (gV σ 20 (a1.toInt.toNat) 2) from (f14.1 20 (a1.toInt.toNat) (2) (by decide) (by decide)).trans (show gV τ2 20 (a1.toInt.toNat) 2 = (gV σ 20 (a1.toInt.toNat) 2) from (f4.1 20 (a1.toInt.toNat) (2) (by decide) (by decide)).trans rfl)) ?_
        refine m_istore_n (L1 := [some (.ref (G.1 0 0)), some (.int a1), some (.ref (G.1 20 (a1.toInt.toNat))), some (.int (gV σ 20 (a1.toInt.toNat) 2))]) C dX11_drop_30 rfl (by decide) rfl rfl ?_
        refine m_aload_n C dX11_drop_31 rfl rfl ?_
        refine m_callV (n := 0) (ci := 6) (st := []) C (c_X7_endE l G τ12 (j := (a1.toInt.toNat)) (iv_nat b11 (by decide))  i13 ) (by decide) (iv_nat b11 (by decide)) rfl rfl rfl q2_38 q2_35 q2_36 q2_37 q1_6 (by decide +kernel) rfl (by decide) (by decide) rfl (Nat.le_of_ble_eq_true rfl) dX11_drop_32 ?_
        rintro _ τ38 ⟨rfl, i39, f40, h44⟩
        have g43 : Fr MS_X11_dropE AS_X11_dropE σ τ38 := Fr.call (g17) f40 (by decide)
        have u45 : IV (gV τ38 20 (a1.toInt.toNat) 2) 0 40 := i39.1 20 (a1.toInt.toNat) 2
        show MW p l e _ s m args below meth c _ 4 G 0 0 35 [some (.ref (G.1 0 0)), some (.int a1), some (.ref (G.1 20 (a1.toInt.toNat))), some (.int (gV σ 20 (a1.toInt.toNat) 2))] [] τ38
        refine m_aload_n C dX11_drop_35 rfl rfl ?_
        refine m_iload_n C dX11_drop_36 rfl rfl ?_
        refine m_callV (n := 1) (ci := 10) (st := []) C (c_X11_clean l G τ38 ((gV σ 20 (a1.toInt.toNat) 2)) i39 ) (by decide) (by decide) rfl rfl rfl q2_7 q2_4 q2_6 q0_2 q1_1 (by decide +kernel) rfl (by decide) (by decide) rfl (Nat.le_of_ble_eq_true rfl) dX11_drop_37 ?_
        rintro _ τ46 ⟨x49, rfl, i47, f48, b50, h52⟩
        have g51 : Fr MS_X11_dropE AS_X11_dropE σ τ46 := Fr.call (g43) f48 (by decide)
        have q53 : (gV τ46 20 (a1.toInt.toNat) 1).toInt = (gV τ38 20 (a1.toInt.toNat) 1).toInt := congrArg Int32.toInt (show (gV τ46 20 (a1.toInt.toNat) 1) = (gV τ38 20 (a1.toInt.toNat) 1) from (show gV τ46 20 (a1.toInt.toNat) 1 = (gV τ38 20 (a1.toInt.toNat) 1) from (f48.1 20 (a1.toInt.toNat) (1) (by decide) (by decide)).trans rfl))
        have q54 : (gV τ46 20 (a1.toInt.toNat) 2).toInt = (gV τ38 20 (a1.toInt.toNat) 2).toInt := congrArg Int32.toInt (show (gV τ46 20 (a1.toInt.toNat) 2) = (gV τ38 20 (a1.toInt.toNat) 2) from (show gV τ46 20 (a1.toInt.toNat) 2 = (gV τ38 20 (a1.toInt.toNat) 2) from (f48.1 20 (a1.toInt.toNat) (2) (by decide) (by decide)).trans rfl))
        show MW p l e _ s m args below meth c _ 4 G 0 0 40 [some (.ref (G.1 0 0)), some (.int a1), some (.ref (G.1 20 (a1.toInt.toNat))), some (.int (gV σ 20 (a1.toInt.toNat) 2))] [.int x49] τ46
        exact m_iret C hr hlk (by decide) (by decide) dX11_drop_40 ⟨_, rfl, i47, g51, b50, (Or.inr (Or.inr ⟨by omega, by omega, by omega, (BG.from h44 ((SameR.rf.fr f4 (by simp) (by decide)).fr f14 (by simp) (by decide))).then (SameR.rf.fr f48 (by simp) (by decide))⟩))⟩
      · exfalso
        have q : _ := c36
        simp only [ti_nle, ti_nlt, ti_le, ti_lt, ti_eq, ti_ne, Classical.not_not, kt_0] at q
        have q1 := b35; have q2 := kc_0; omega

abbrev MS_X12_dropE : List (Nat × Nat) := [(22, 8)]
abbrev AS_X12_dropE : List Nat := [26]
set_option maxHeartbeats 4000000 in
set_option maxRecDepth 100000 in
theorem c_X12_dropE (l : Launch) (G : Gt) (σ : Sg) (a1 : Int32) (hI : Inv σ) : Mc l G yX12_drop cX12_drop 2 (some .int) 2 45 0 0 [.ref (G.1 22 0), .int a1] σ (PI fun r τ => Inv τ ∧ Fr MS_X12_dropE AS_X12_dropE σ τ ∧ IV r (-2147483648) 2147483647 ∧ (((a1.toInt < 0 ∨ 7 < a1.toInt) ∧ r.toInt = -1000001 ∧ SameL σ τ) ∨ ((0 ≤ a1.toInt ∧ a1.toInt ≤ 7) ∧ (gV σ 26 0 (a1.toInt.toNat)).toInt < 0 ∧ r.toInt = -1000011 ∧ SameL σ τ) ∨ ((0 ≤ a1.toInt ∧ a1.toInt ≤ 7) ∧ ¬ ((gV σ 26 0 (a1.toInt.toNat)).toInt < 0) ∧ r.toInt = (gV σ 27 0 (a1.toInt.toNat)).toInt ∧ LD σ τ (a1.toInt.toNat)))) := by
  refine Mc.of (L0 := [some (.ref (G.1 22 0)), some (.int a1)]) (by decide) (Nat.le_of_ble_eq_true rfl) rfl ?_
  intro p e s m args below meth c C hr hlk
  have C : Cx p s m args c cX12_drop 2 "LeanTowerModel" := C
  have k0 : (0 : Int32).toInt = 0 := by decide
  have k1 : (1 : Int32).toInt = 1 := by decide
  have u1 : IV (gV σ 27 0 (a1.toInt.toNat)) 0 40 := hI.1 27 0 (a1.toInt.toNat)
  refine m_iload_n C dX12_drop_0 rfl rfl ?_
  refine m_callS (n := 1) (st := []) C (c_X12_isRow l G σ (a1) hI ) q4_186 q4_184 q4_185 q1_7 (by decide +kernel) rfl (by decide) (by decide) rfl (Nat.le_of_ble_eq_true rfl) dX12_drop_1 ?_
  rintro _ τ2 ⟨x5, rfl, i3, f4, b6, h8⟩
  have g7 : Fr MS_X12_dropE AS_X12_dropE σ τ2 := Fr.call (Fr.rf) f4 (by decide)
  have q9 : (gV τ2 26 0 (a1.toInt.toNat)).toInt = (gV σ 26 0 (a1.toInt.toNat)).toInt := congrArg Int32.toInt (show (gV τ2 26 0 (a1.toInt.toNat)) = (gV σ 26 0 (a1.toInt.toNat)) from (show gV τ2 26 0 (a1.toInt.toNat) = (gV σ 26 0 (a1.toInt.toNat)) from (f4.1 26 0 ((a1.toInt.toNat)) (by simp) (by decide)).trans rfl))
  have q10 : (gV τ2 27 0 (a1.toInt.toNat)).toInt = (gV σ 27 0 (a1.toInt.toNat)).toInt := congrArg Int32.toInt (show (gV τ2 27 0 (a1.toInt.toNat)) = (gV σ 27 0 (a1.toInt.toNat)) from (show gV τ2 27 0 (a1.toInt.toNat) = (gV σ 27 0 (a1.toInt.toNat)) from (f4.1 27 0 ((a1.toInt.toNat)) (by simp) (by decide)).trans rfl))
  rcases h8 with ⟨h8_0, h8_1, h8_2⟩ | ⟨h8_0, h8_1⟩
  · skip
    have b11 : IV x5 1 1 := ⟨by omega, by omega⟩
    show MW p l e _ s m args below meth c _ 2 G 0 0 4 [some (.ref (G.1 22 0)), some (.int a1)] [.int x5] τ2
    refine m_if_ne (tgt := 10) C dX12_drop_4 (by decide) (fun c12 => ?_) (fun c12 => ?_)
    · have f13 : x5.toInt ≠ 0 := by
        have q : _ := c12
        simp only [ti_nle, ti_nlt, ti_le, ti_lt, ti_eq, ti_ne, Classical.not_not, kt_0] at q
        omega
      have b14 : IV a1 0 7 := ⟨by have q1 := (iv_any a1); omega, by have q1 := (iv_any a1); omega⟩
      refine m_aload_n C dX12_drop_10 rfl rfl ?_
      refine g_22_3 C q4_119 dX12_drop_11 ?_
      refine m_iload_n C dX12_drop_14 rfl rfl ?_
      refine al_26 C b14 (by decide) rfl dX12_drop_15 ?_
      refine m_eqs (w := (gV σ 26 0 (a1.toInt.toNat))) (show gV τ2 26 0 (a1.toInt.toNat) = (gV σ 26 0 (a1.toInt.toNat)) from (f4.1 26 0 ((a1.toInt.toNat)) (by simp) (by decide)).trans rfl) ?_
      refine m_if_ge (tgt := 25) C dX12_drop_16 (by decide) (fun c15 => ?_) (fun c15 => ?_)
      · have f16 : 0 ≤ (gV σ 26 0 (a1.toInt.toNat)).toInt := by
          have q : _ := c15
          simp only [ti_nle, ti_nlt, ti_le, ti_lt, ti_eq, ti_ne, Classical.not_not, kt_0] at q
          omega
        have b17 : IV (gV σ 26 0 (a1.toInt.toNat)) 0 2147483647 := ⟨by have q1 := kc_0; have q2 := (iv_any (gV σ 26 0 (a1.toInt.toNat))); omega, by have q1 := kc_0; have q2 := (iv_any (gV σ 26 0 (a1.toInt.toNat))); omega⟩
        refine m_aload_n C dX12_drop_25 rfl rfl ?_
        refine g_22_3 C q4_119 dX12_drop_26 ?_
        refine m_iload_n C dX12_drop_29 rfl rfl ?_
        refine m_iconst (v := (-1)) C dX12_drop_30 (by decide) ?_
        refine as_26 C b14 (by decide) rfl dX12_drop_31 ?_
        refine m_tops (fun τ18 eτ18 => ?_)
        have i19 : Inv τ18 := eτ18 ▸ Inv.putF i3 (by decide) rfl
        have f20 : Fr MS_X12_dropE AS_X12_dropE σ τ18 := eτ18 ▸ Fr.put (g7) (Or.inr (by decide))
        refine m_aload_n C dX12_drop_32 rfl rfl ?_
        refine m_aload_n C dX12_drop_33 rfl rfl ?_
        refine g_22_4 C q4_120 dX12_drop_34 ?_
        refine m_iload_n C dX12_drop_37 rfl rfl ?_
        refine al_27 C b14 (by decide) rfl dX12_drop_38 ?_
        refine m_eqs (w := (gV σ 27 0 (a1.toInt.toNat))) (show gV τ18 27 0 (a1.toInt.toNat) = (gV σ 27 0 (a1.toInt.toNat)) from gV_put eτ18 (show gV τ2 27 0 (a1.toInt.toNat) = (gV σ 27 0 (a1.toInt.toNat)) from (f4.1 27 0 ((a1.toInt.toNat)) (by simp) (by decide)).trans rfl)) ?_
        refine m_callV (n := 1) (ci := 11) (st := []) C (c_X12_fine l G τ18 ((gV σ 27 0 (a1.toInt.toNat))) i19 ) (by decide) (by decide) rfl rfl rfl q4_201 q4_198 q4_200 q0_27 q1_7 (by decide +kernel) rfl (by decide) (by decide) rfl (Nat.le_of_ble_eq_true rfl) dX12_drop_39 ?_
        rintro _ τ21 ⟨x24, rfl, i22, f23, b25, h27⟩
        have g26 : Fr MS_X12_dropE AS_X12_dropE σ τ21 := Fr.call (f20) f23 (by decide)
        have q28 : (gV τ21 27 0 (a1.toInt.toNat)).toInt = (gV σ 27 0 (a1.toInt.toNat)).toInt := congrArg Int32.toInt (show (gV τ21 27 0 (a1.toInt.toNat)) = (gV σ 27 0 (a1.toInt.toNat)) from (show gV τ21 27 0 (a1.toInt.toNat) = (gV σ 27 0 (a1.toInt.toNat)) from (f23.1 27 0 ((a1.toInt.toNat)) (by simp) (by decide)).trans (show gV τ18 27 0 (a1.toInt.toNat) = (gV σ 27 0 (a1.toInt.toNat)) from gV_put eτ18 (show gV τ2 27 0 (a1.toInt.toNat) = (gV σ 27 0 (a1.toInt.toNat)) from (f4.1 27 0 ((a1.toInt.toNat)) (by simp) (by decide)).trans rfl))))
        have q29 : (gV τ21 26 0 (a1.toInt.toNat)).toInt = -1 := (congrArg Int32.toInt (show (gV τ21 26 0 (a1.toInt.toNat)) = (-1) from (show gV τ21 26 0 (a1.toInt.toNat) = (-1) from (f23.1 26 0 ((a1.toInt.toNat)) (by simp) (by decide)).trans (show gV τ18 26 0 (a1.toInt.toNat) = (-1) from gV_put eτ18 (gV_self _ _ _ _ _))))).trans kt_m1
        show MW p l e _ s m args below meth c _ 2 G 0 0 42 [some (.ref (G.1 22 0)), some (.int a1)] [.int x24] τ21
        exact m_iret C hr hlk (by decide) (by decide) dX12_drop_42 ⟨_, rfl, i22, g26, b25, (Or.inr (Or.inr ⟨by omega, by omega, by omega, (LD.mk (SameL.rf.fr f4 (by simp) (by decide)) eτ18).then (SameL.rf.fr f23 (by simp) (by decide))⟩))⟩
      · have f30 : (gV σ 26 0 (a1.toInt.toNat)).toInt < 0 := by
          have q : _ := c15
          simp only [ti_nle, ti_nlt, ti_le, ti_lt, ti_eq, ti_ne, Classical.not_not, kt_0] at q
          omega
        have b31 : IV (gV σ 26 0 (a1.toInt.toNat)) (-2147483648) (-1) := ⟨by have q1 := (iv_any (gV σ 26 0 (a1.toInt.toNat))); have q2 := kc_0; omega, by have q1 := (iv_any (gV σ 26 0 (a1.toInt.toNat))); have q2 := kc_0; omega⟩
        refine m_aload_n C dX12_drop_19 rfl rfl ?_
        refine m_iconst (v := 1) C dX12_drop_20 (by decide) ?_
        refine m_callV (n := 1) (ci := 11) (st := []) C (c_X12_met l G τ2 (1) i3 (iv_wk kc_1 (by decide))) (by decide) (by decide) rfl rfl rfl q4_196 q4_193 q4_195 q0_26 q1_7 (by decide +kernel) rfl (by decide) (by decide) rfl (Nat.le_of_ble_eq_true rfl) dX12_drop_21 ?_
        rintro _ τ32 ⟨x35, rfl, i33, f34, b36, h38⟩
        have g37 : Fr MS_X12_dropE AS_X12_dropE σ τ32 := Fr.call (g7) f34 (by decide)
        have q39 : (gV τ32 26 0 (a1.toInt.toNat)).toInt = (gV σ 26 0 (a1.toInt.toNat)).toInt := congrArg Int32.toInt (show (gV τ32 26 0 (a1.toInt.toNat)) = (gV σ 26 0 (a1.toInt.toNat)) from (show gV τ32 26 0 (a1.toInt.toNat) = (gV σ 26 0 (a1.toInt.toNat)) from (f34.1 26 0 ((a1.toInt.toNat)) (by simp) (by decide)).trans (show gV τ2 26 0 (a1.toInt.toNat) = (gV σ 26 0 (a1.toInt.toNat)) from (f4.1 26 0 ((a1.toInt.toNat)) (by simp) (by decide)).trans rfl)))
        have q40 : (gV τ32 27 0 (a1.toInt.toNat)).toInt = (gV σ 27 0 (a1.toInt.toNat)).toInt := congrArg Int32.toInt (show (gV τ32 27 0 (a1.toInt.toNat)) = (gV σ 27 0 (a1.toInt.toNat)) from (show gV τ32 27 0 (a1.toInt.toNat) = (gV σ 27 0 (a1.toInt.toNat)) from (f34.1 27 0 ((a1.toInt.toNat)) (by simp) (by decide)).trans (show gV τ2 27 0 (a1.toInt.toNat) = (gV σ 27 0 (a1.toInt.toNat)) from (f4.1 27 0 ((a1.toInt.toNat)) (by simp) (by decide)).trans rfl)))
        have q41 := kt_1
        show MW p l e _ s m args below meth c _ 2 G 0 0 24 [some (.ref (G.1 22 0)), some (.int a1)] [.int x35] τ32
        exact m_iret C hr hlk (by decide) (by decide) dX12_drop_24 ⟨_, rfl, i33, g37, (iv_wk b36 (by decide)), (Or.inr (Or.inl ⟨by omega, by omega, by omega, ((SameL.rf.fr f4 (by simp) (by decide)).fr f34 (by simp) (by decide))⟩))⟩
    · exfalso
      have q : _ := c12
      simp only [ti_nle, ti_nlt, ti_le, ti_lt, ti_eq, ti_ne, Classical.not_not, kt_0] at q
      have q1 := b11; have q2 := kc_0; omega
  · skip
    have b43 : IV x5 0 0 := ⟨by omega, by omega⟩
    show MW p l e _ s m args below meth c _ 2 G 0 0 4 [some (.ref (G.1 22 0)), some (.int a1)] [.int x5] τ2
    refine m_if_ne (tgt := 10) C dX12_drop_4 (by decide) (fun c44 => ?_) (fun c44 => ?_)
    · exfalso
      have q : _ := c44
      simp only [ti_nle, ti_nlt, ti_le, ti_lt, ti_eq, ti_ne, Classical.not_not, kt_0] at q
      have q1 := b43; have q2 := kc_0; omega
    · have f46 : x5.toInt = 0 := by
        have q : _ := c44
        simp only [ti_nle, ti_nlt, ti_le, ti_lt, ti_eq, ti_ne, Classical.not_not, kt_0] at q
        omega
      refine m_ldc (v := (-1000001)) C dX12_drop_7 q4_192 ?_
      exact m_iret C hr hlk (by decide) (by decide) dX12_drop_9 ⟨_, rfl, i3, g7, (iv_wk kc_m1000001 (by decide)), (Or.inl ⟨by omega, (by have q := kt_m1000001; omega), (SameL.rf.fr f4 (by simp) (by decide))⟩)⟩

abbrev MS_X12_rowE : List (Nat × Nat) := [(22, 8)]
abbrev AS_X12_rowE : List Nat := [25, 26, 27]
set_option maxHeartbeats 4000000 in
set_option maxRecDepth 100000 in
theorem c_X12_rowE (l : Launch) (G : Gt) (σ : Sg) (a1 : Int32) (a2 : Int32) (a3 : Int32) (hI : Inv σ) : Mc l G yX12_row cX12_row 5 (some .int) 2 45 0 0 [.ref (G.1 22 0), .int a1, .int a2, .int a3] σ (PI fun r τ => Inv τ ∧ Fr MS_X12_rowE AS_X12_rowE σ τ ∧ IV r (-2147483648) 2147483647 ∧ (((a1.toInt < 0 ∨ 7 < a1.toInt ∨ a2.toInt < 0 ∨ 2 < a2.toInt ∨ 40 < a3.toInt) ∧ r.toInt = -1000001 ∧ SameL σ τ) ∨ ((0 ≤ a1.toInt ∧ a1.toInt ≤ 7 ∧ 0 ≤ a2.toInt ∧ a2.toInt ≤ 2 ∧ a3.toInt < 0) ∧ r.toInt = -1000014 ∧ SameL σ τ) ∨ ((0 ≤ a1.toInt ∧ a1.toInt ≤ 7 ∧ 0 ≤ a2.toInt ∧ a2.toInt ≤ 2 ∧ 0 ≤ a3.toInt ∧ a3.toInt ≤ 40) ∧ r.toInt = a3.toInt ∧ LU σ τ (a1.toInt.toNat) a2 a3))) := by
  refine Mc.of (L0 := [some (.ref (G.1 22 0)), some (.int a1), some (.int a2), some (.int a3), none]) (by decide) (Nat.le_of_ble_eq_true rfl) rfl ?_
  intro p e s m args below meth c C hr hlk
  have C : Cx p s m args c cX12_row 5 "LeanTowerModel" := C
  have k0 : (0 : Int32).toInt = 0 := by decide
  have k1 : (1 : Int32).toInt = 1 := by decide
  have J55 : ∀ (n : Nat) (τ : Sg) (y4 : Int32), Inv τ → Fr MS_X12_rowE AS_X12_rowE σ τ → IV a1 0 7 → IV a2 0 2 → IV a3 0 40 → IV y4 0 40 → (0 ≤ a1.toInt ∧ a1.toInt ≤ 7 ∧ 0 ≤ a2.toInt ∧ a2.toInt ≤ 2 ∧ 0 ≤ a3.toInt ∧ a3.toInt ≤ 40) → (LU σ τ (a1.toInt.toNat) a2 a3) → (40 - y4.toInt).toNat < n → MW p l e { frames := 2, cells := 0, slots := 0, locals := 45 } s m args below meth c (MQ below (QP G (PI fun r τ => Inv τ ∧ Fr MS_X12_rowE AS_X12_rowE σ τ ∧ IV r (-2147483648) 2147483647 ∧ (((a1.toInt < 0 ∨ 7 < a1.toInt ∨ a2.toInt < 0 ∨ 2 < a2.toInt ∨ 40 < a3.toInt) ∧ r.toInt = -1000001 ∧ SameL σ τ) ∨ ((0 ≤ a1.toInt ∧ a1.toInt ≤ 7 ∧ 0 ≤ a2.toInt ∧ a2.toInt ≤ 2 ∧ a3.toInt < 0) ∧ r.toInt = -1000014 ∧ SameL σ τ) ∨ ((0 ≤ a1.toInt ∧ a1.toInt ≤ 7 ∧ 0 ≤ a2.toInt ∧ a2.toInt ≤ 2 ∧ 0 ≤ a3.toInt ∧ a3.toInt ≤ 40) ∧ r.toInt = a3.toInt ∧ LU σ τ (a1.toInt.toNat) a2 a3)))) args s 0 0 (aG G)) 5 G 0 0 55 [some (.ref (G.1 22 0)), some (.int a1), none, some (.int a3), some (.int y4)] [] τ := by
    intro n
    induction n with
    | zero => intro τ y4 iτ fτ b_a1 b_a2 b_a3 b_y4 n1 nU hm; exact absurd hm (Nat.not_lt_zero _)
    | succ n ih55 =>
      intro τ y4 iτ fτ b_a1 b_a2 b_a3 b_y4 n1 nU hm55
      refine m_iload C dX12_row_55 rfl ?_
      refine m_iload_n C dX12_row_57 rfl rfl ?_
      refine m_icmp_ge (tgt := 80) C dX12_row_58 (by decide) (fun c2 => ?_) (fun c2 => ?_)
      · have f3 : a3.toInt ≤ y4.toInt := by
          have q : _ := c2
          simp only [ti_nle, ti_nlt, ti_le, ti_lt, ti_eq, ti_ne, Classical.not_not] at q
          omega
        refine m_aload_n C dX12_row_80 rfl rfl ?_
        refine m_iload_n C dX12_row_81 rfl rfl ?_
        refine m_callV (n := 1) (ci := 11) (st := []) C (c_X12_fine l G τ (a3) iτ ) (by decide) (by decide) rfl rfl rfl q4_201 q4_198 q4_200 q0_27 q1_7 (by decide +kernel) rfl (by decide) (by decide) rfl (Nat.le_of_ble_eq_true rfl) dX12_row_82 ?_
        rintro _ τ4 ⟨x7, rfl, i5, f6, b8, h10⟩
        have g9 : Fr MS_X12_rowE AS_X12_rowE σ τ4 := Fr.call (fτ) f6 (by decide)
        show MW p l e _ s m args below meth c _ 5 G 0 0 85 [some (.ref (G.1 22 0)), some (.int a1), none, some (.int a3), some (.int y4)] [.int x7] τ4
        exact m_iret C hr hlk (by decide) (by decide) dX12_row_85 ⟨_, rfl, i5, g9, b8, (Or.inr (Or.inr ⟨by omega, by omega, nU.then (SameL.rf.fr f6 (by simp) (by decide))⟩))⟩
      · have f11 : y4.toInt < a3.toInt := by
          have q : _ := c2
          simp only [ti_nle, ti_nlt, ti_le, ti_lt, ti_eq, ti_ne, Classical.not_not] at q
          omega
        have b12 : IV y4 0 39 := ⟨by have q1 := b_y4; have q2 := b_a3; omega, by have q1 := b_y4; have q2 := b_a3; omega⟩
        have b13 : IV a3 1 40 := ⟨by have q1 := b_y4; have q2 := b_a3; omega, by have q1 := b_y4; have q2 := b_a3; omega⟩
        refine m_aload_n C dX12_row_61 rfl rfl ?_
        refine g_22_2 C q4_118 dX12_row_62 ?_
        refine m_bipush (v := 40) C dX12_row_65 (by decide) ?_
        refine m_iload_n C dX12_row_67 rfl rfl ?_
        refine m_imul C dX12_row_68 ?_
        refine m_topi (fun x14 ex14 => ?_)
        have tx14 : x14.toInt = 40 * a1.toInt := by rw [ex14, ti_mulv kc_40 b_a1 (by decide), kt_40]
        have b15 : IV x14 0 280 := by rw [ex14]; exact iv_mul kc_40 b_a1 (by decide)
        refine m_iload C dX12_row_69 rfl ?_
        refine m_iadd C dX12_row_71 ?_
        refine m_topi (fun x16 ex16 => ?_)
        have tx16 : x16.toInt = x14.toInt + y4.toInt := by rw [ex16, ti_addv b15 b12 (by decide)]
        have b17 : IV x16 0 319 := by rw [ex16]; exact iv_add b15 b12 (by decide)
        refine m_iconst (v := 0) C dX12_row_72 (by decide) ?_
        refine as_25 C b17 (by decide) rfl dX12_row_73 ?_
        refine m_tops (fun τ18 eτ18 => ?_)
        have i19 : Inv τ18 := eτ18 ▸ Inv.putF iτ (by decide) rfl
        have f20 : Fr MS_X12_rowE AS_X12_rowE σ τ18 := eτ18 ▸ Fr.put (fτ) (Or.inr (by decide))
        obtain ⟨x21, ex21⟩ : ∃ y : Int32, y = y4 + 1 := ⟨_, rfl⟩
        have tx21 : x21.toInt = y4.toInt + 1 := by rw [ex21, ti_addv b12 kc_1 (by decide), kt_1]
        have b22 : IV x21 1 40 := by rw [ex21]; exact iv_add b12 kc_1 (by decide)
        refine m_iinc (v := x21) (L1 := [some (.ref (G.1 22 0)), some (.int a1), none, some (.int a3), some (.int x21)]) C dX12_row_74 rfl (by rw [ex21]; rfl) (by decide) rfl rfl ?_
        refine m_goto (tgt := 55) C dX12_row_77 (by decide) ?_
        exact ih55 τ18 x21 i19 f20 b_a1 b_a2 (iv_wk b13 (by decide)) (iv_wk b22 (by decide)) (by omega) (nU.then (SameL.rf.put eτ18 (by decide) (by decide))) (by have q := hm55; omega)
  refine m_iload_n C dX12_row_0 rfl rfl ?_
  refine m_callS (n := 1) (st := []) C (c_X12_isRow l G σ (a1) hI ) q4_186 q4_184 q4_185 q1_7 (by decide +kernel) rfl (by decide) (by decide) rfl (Nat.le_of_ble_eq_true rfl) dX12_row_1 ?_
  rintro _ τ23 ⟨x26, rfl, i24, f25, b27, h29⟩
  have g28 : Fr MS_X12_rowE AS_X12_rowE σ τ23 := Fr.call (Fr.rf) f25 (by decide)
  rcases h29 with ⟨h29_0, h29_1, h29_2⟩ | ⟨h29_0, h29_1⟩
  · skip
    have b30 : IV x26 1 1 := ⟨by omega, by omega⟩
    show MW p l e _ s m args below meth c _ 5 G 0 0 4 [some (.ref (G.1 22 0)), some (.int a1), some (.int a2), some (.int a3), none] [.int x26] τ23
    refine m_if_eq (tgt := 25) C dX12_row_4 (by decide) (fun c31 => ?_) (fun c31 => ?_)
    · exfalso
      have q : _ := c31
      simp only [ti_nle, ti_nlt, ti_le, ti_lt, ti_eq, ti_ne, Classical.not_not, kt_0] at q
      have q1 := b30; have q2 := kc_0; omega
    · have f33 : x26.toInt ≠ 0 := by
        have q : _ := c31
        simp only [ti_nle, ti_nlt, ti_le, ti_lt, ti_eq, ti_ne, Classical.not_not, kt_0] at q
        omega
      have b34 : IV a1 0 7 := ⟨by have q1 := (iv_any a1); omega, by have q1 := (iv_any a1); omega⟩
      refine m_iload_n C dX12_row_7 rfl rfl ?_
      refine m_i2l C dX12_row_8 ?_
      refine m_lconst (v := 0) C dX12_row_9 (by decide) ?_
      refine m_ldc2 (v := 2) C dX12_row_10 q4_191 ?_
      refine m_callS (n := 3) (st := []) C (c_X12_in l G τ23 ((a2 : Int32).toInt64) (0) (2) i24 ) q4_190 q4_188 q4_189 q1_7 (by decide +kernel) rfl (by decide) (by decide) rfl (Nat.le_of_ble_eq_true rfl) dX12_row_13 ?_
      rintro _ τ35 ⟨x38, rfl, i36, f37, b39, h41⟩
      have g40 : Fr MS_X12_rowE AS_X12_rowE σ τ35 := Fr.call (g28) f37 (by decide)
      have f42 := tl_i a2
      have f43 := kl_0
      have f44 := kl_2
      rcases h41 with ⟨h41_0, h41_1, h41_2⟩ | ⟨h41_0, h41_1⟩
      · skip
        have b45 : IV x38 1 1 := ⟨by omega, by omega⟩
        show MW p l e _ s m args below meth c _ 5 G 0 0 16 [some (.ref (G.1 22 0)), some (.int a1), some (.int a2), some (.int a3), none] [.int x38] τ35
        refine m_if_eq (tgt := 25) C dX12_row_16 (by decide) (fun c46 => ?_) (fun c46 => ?_)
        · exfalso
          have q : _ := c46
          simp only [ti_nle, ti_nlt, ti_le, ti_lt, ti_eq, ti_ne, Classical.not_not, kt_0] at q
          have q1 := b45; have q2 := kc_0; omega
        · have f48 : x38.toInt ≠ 0 := by
            have q : _ := c46
            simp only [ti_nle, ti_nlt, ti_le, ti_lt, ti_eq, ti_ne, Classical.not_not, kt_0] at q
            omega
          have b49 : IV a2 0 2 := ⟨by have q1 := (iv_any a2); omega, by have q1 := (iv_any a2); omega⟩
          refine m_iload_n C dX12_row_19 rfl rfl ?_
          refine m_bipush (v := 40) C dX12_row_20 (by decide) ?_
          refine m_icmp_le (tgt := 28) C dX12_row_22 (by decide) (fun c50 => ?_) (fun c50 => ?_)
          · have f51 : a3.toInt ≤ 40 := by
              have q : _ := c50
              simp only [ti_nle, ti_nlt, ti_le, ti_lt, ti_eq, ti_ne, Classical.not_not, kt_40] at q
              omega
            have b52 : IV a3 (-2147483648) 40 := ⟨by have q1 := (iv_any a3); have q2 := kc_40; omega, by have q1 := (iv_any a3); have q2 := kc_40; omega⟩
            refine m_iload_n C dX12_row_28 rfl rfl ?_
            refine m_if_ge (tgt := 38) C dX12_row_29 (by decide) (fun c53 => ?_) (fun c53 => ?_)
            · have f54 : 0 ≤ a3.toInt := by
                have q : _ := c53
                simp only [ti_nle, ti_nlt, ti_le, ti_lt, ti_eq, ti_ne, Classical.not_not, kt_0] at q
                omega
              have b55 : IV a3 0 40 := ⟨by have q1 := kc_0; have q2 := b52; omega, by have q1 := kc_0; have q2 := b52; omega⟩
              refine m_aload_n C dX12_row_38 rfl rfl ?_
              refine g_22_3 C q4_119 dX12_row_39 ?_
              refine m_iload_n C dX12_row_42 rfl rfl ?_
              refine m_iload_n C dX12_row_43 rfl rfl ?_
              refine as_26 C b34 (by decide) rfl dX12_row_44 ?_
              refine m_tops (fun τ56 eτ56 => ?_)
              have i57 : Inv τ56 := eτ56 ▸ Inv.putF i36 (by decide) rfl
              have f58 : Fr MS_X12_rowE AS_X12_rowE σ τ56 := eτ56 ▸ Fr.put (g40) (Or.inr (by decide))
              refine m_aload_n C dX12_row_45 rfl rfl ?_
              refine g_22_4 C q4_120 dX12_row_46 ?_
              refine m_iload_n C dX12_row_49 rfl rfl ?_
              refine m_iload_n C dX12_row_50 rfl rfl ?_
              refine as_27 C b34 (by decide) rfl dX12_row_51 ?_
              refine m_tops (fun τ59 eτ59 => ?_)
              have i60 : Inv τ59 := eτ59 ▸ Inv.put i57 (by decide) b55
              have f61 : Fr MS_X12_rowE AS_X12_rowE σ τ59 := eτ59 ▸ Fr.put (f58) (Or.inr (by decide))
              refine m_iconst (v := 0) C dX12_row_52 (by decide) ?_
              refine m_istore (L1 := [some (.ref (G.1 22 0)), some (.int a1), some (.int a2), some (.int a3), some (.int 0)]) C dX12_row_53 (by decide) rfl rfl ?_
              refine m_sub (L1 := [some (.ref (G.1 22 0)), some (.int a1), none, some (.int a3), some (.int 0)]) ⟨rfl, ⟨rfl, ⟨rfl, ⟨rfl, trivial⟩⟩⟩⟩ ?_
              exact J55 ((40 - (0 : Int32).toInt).toNat + 1) τ59 0 i60 f61 b34 b49 b55 (iv_wk kc_0 (by decide)) (by omega) (LU.mk ((SameL.rf.fr f25 (by simp) (by decide)).fr f37 (by simp) (by decide)) eτ56 eτ59) (Nat.lt_succ_self _)
            · have f62 : a3.toInt < 0 := by
                have q : _ := c53
                simp only [ti_nle, ti_nlt, ti_le, ti_lt, ti_eq, ti_ne, Classical.not_not, kt_0] at q
                omega
              have b63 : IV a3 (-2147483648) (-1) := ⟨by have q1 := b52; have q2 := kc_0; omega, by have q1 := b52; have q2 := kc_0; omega⟩
              refine m_aload_n C dX12_row_32 rfl rfl ?_
              refine m_iconst (v := 4) C dX12_row_33 (by decide) ?_
              refine m_callV (n := 1) (ci := 11) (st := []) C (c_X12_met l G τ35 (4) i36 (iv_wk kc_4 (by decide))) (by decide) (by decide) rfl rfl rfl q4_196 q4_193 q4_195 q0_26 q1_7 (by decide +kernel) rfl (by decide) (by decide) rfl (Nat.le_of_ble_eq_true rfl) dX12_row_34 ?_
              rintro _ τ64 ⟨x67, rfl, i65, f66, b68, h70⟩
              have g69 : Fr MS_X12_rowE AS_X12_rowE σ τ64 := Fr.call (g40) f66 (by decide)
              have q71 := kt_4
              show MW p l e _ s m args below meth c _ 5 G 0 0 37 [some (.ref (G.1 22 0)), some (.int a1), some (.int a2), some (.int a3), none] [.int x67] τ64
              exact m_iret C hr hlk (by decide) (by decide) dX12_row_37 ⟨_, rfl, i65, g69, (iv_wk b68 (by decide)), (Or.inr (Or.inl ⟨by omega, by omega, (((SameL.rf.fr f25 (by simp) (by decide)).fr f37 (by simp) (by decide)).fr f66 (by simp) (by decide))⟩))⟩
          · have f72 : 40 < a3.toInt := by
              have q : _ := c50
              simp only [ti_nle, ti_nlt, ti_le, ti_lt, ti_eq, ti_ne, Classical.not_not, kt_40] at q
              omega
            have b73 : IV a3 41 2147483647 := ⟨by have q1 := kc_40; have q2 := (iv_any a3); omega, by have q1 := kc_40; have q2 := (iv_any a3); omega⟩
            refine m_ldc (v := (-1000001)) C dX12_row_25 q4_192 ?_
            exact m_iret C hr hlk (by decide) (by decide) dX12_row_27 ⟨_, rfl, i36, g40, (iv_wk kc_m1000001 (by decide)), (Or.inl ⟨by omega, (by have q := kt_m1000001; omega), ((SameL.rf.fr f25 (by simp) (by decide)).fr f37 (by simp) (by decide))⟩)⟩
      · skip
        have b74 : IV x38 0 0 := ⟨by omega, by omega⟩
        show MW p l e _ s m args below meth c _ 5 G 0 0 16 [some (.ref (G.1 22 0)), some (.int a1), some (.int a2), some (.int a3), none] [.int x38] τ35
        refine m_if_eq (tgt := 25) C dX12_row_16 (by decide) (fun c75 => ?_) (fun c75 => ?_)
        · have f76 : x38.toInt = 0 := by
            have q : _ := c75
            simp only [ti_nle, ti_nlt, ti_le, ti_lt, ti_eq, ti_ne, Classical.not_not, kt_0] at q
            omega
          refine m_ldc (v := (-1000001)) C dX12_row_25 q4_192 ?_
          exact m_iret C hr hlk (by decide) (by decide) dX12_row_27 ⟨_, rfl, i36, g40, (iv_wk kc_m1000001 (by decide)), (Or.inl ⟨by omega, (by have q := kt_m1000001; omega), ((SameL.rf.fr f25 (by simp) (by decide)).fr f37 (by simp) (by decide))⟩)⟩
        · exfalso
          have q : _ := c75
          simp only [ti_nle, ti_nlt, ti_le, ti_lt, ti_eq, ti_ne, Classical.not_not, kt_0] at q
          have q1 := b74; have q2 := kc_0; omega
  · skip
    have b78 : IV x26 0 0 := ⟨by omega, by omega⟩
    show MW p l e _ s m args below meth c _ 5 G 0 0 4 [some (.ref (G.1 22 0)), some (.int a1), some (.int a2), some (.int a3), none] [.int x26] τ23
    refine m_if_eq (tgt := 25) C dX12_row_4 (by decide) (fun c79 => ?_) (fun c79 => ?_)
    · have f80 : x26.toInt = 0 := by
        have q : _ := c79
        simp only [ti_nle, ti_nlt, ti_le, ti_lt, ti_eq, ti_ne, Classical.not_not, kt_0] at q
        omega
      refine m_ldc (v := (-1000001)) C dX12_row_25 q4_192 ?_
      exact m_iret C hr hlk (by decide) (by decide) dX12_row_27 ⟨_, rfl, i24, g28, (iv_wk kc_m1000001 (by decide)), (Or.inl ⟨by omega, (by have q := kt_m1000001; omega), (SameL.rf.fr f25 (by simp) (by decide))⟩)⟩
    · exfalso
      have q : _ := c79
      simp only [ti_nle, ti_nlt, ti_le, ti_lt, ti_eq, ti_ne, Classical.not_not, kt_0] at q
      have q1 := b78; have q2 := kc_0; omega
