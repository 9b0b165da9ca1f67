abbrev MS_X11_copyE : List (Nat × Nat) := [(0, 12)]
abbrev AS_X11_copyE : List Nat := [21]
set_option maxHeartbeats 4000000 in
set_option maxRecDepth 100000 in
theorem c_X11_copyE (l : Launch) (G : Gt) (σ : Sg) (a1 : Int32) (a2 : Int32) (a3 : Int32) (a4 : Int32) (a5 : Int32) (hI : Inv σ) : Mc l G yX11_copy cX11_copy 8 (some .int) 1 60 0 0 [.ref (G.1 0 0), .int a1, .int a2, .int a3, .int a4, .int a5] σ (PI fun r τ => Inv τ ∧ Fr MS_X11_copyE AS_X11_copyE σ τ ∧ IV r (-2147483648) 2147483647 ∧ (((a1.toInt < 0 ∨ 7 < a1.toInt ∨ a3.toInt < 0 ∨ 7 < a3.toInt) ∧ r.toInt = -1000001) ∨ ((0 ≤ a1.toInt ∧ a1.toInt ≤ 7 ∧ 0 ≤ a3.toInt ∧ a3.toInt ≤ 7) ∧ ((gV σ 20 (a1.toInt.toNat) 1).toInt = -1 ∨ (gV σ 20 (a3.toInt.toNat) 1).toInt = -1) ∧ r.toInt = -1000011) ∨ ((0 ≤ a1.toInt ∧ a1.toInt ≤ 7 ∧ 0 ≤ a3.toInt ∧ a3.toInt ≤ 7) ∧ ¬ ((gV σ 20 (a1.toInt.toNat) 1).toInt = -1) ∧ ¬ ((gV σ 20 (a3.toInt.toNat) 1).toInt = -1) ∧ (gV σ 20 (a1.toInt.toNat) 1).toInt ≠ (gV σ 20 (a3.toInt.toNat) 1).toInt ∧ r.toInt = -1000015) ∨ ((0 ≤ a1.toInt ∧ a1.toInt ≤ 7 ∧ 0 ≤ a3.toInt ∧ a3.toInt ≤ 7) ∧ ¬ ((gV σ 20 (a1.toInt.toNat) 1).toInt = -1) ∧ ¬ ((gV σ 20 (a3.toInt.toNat) 1).toInt = -1) ∧ (gV σ 20 (a1.toInt.toNat) 1).toInt = (gV σ 20 (a3.toInt.toNat) 1).toInt ∧ ¬ (0 ≤ a2.toInt ∧ 0 ≤ a4.toInt ∧ 0 ≤ a5.toInt ∧ a2.toInt + a5.toInt ≤ (gV σ 20 (a1.toInt.toNat) 2).toInt ∧ a4.toInt + a5.toInt ≤ (gV σ 20 (a3.toInt.toNat) 2).toInt) ∧ r.toInt = -1000012) ∨ ((0 ≤ a1.toInt ∧ a1.toInt ≤ 7 ∧ 0 ≤ a3.toInt ∧ a3.toInt ≤ 7) ∧ ¬ ((gV σ 20 (a1.toInt.toNat) 1).toInt = -1) ∧ ¬ ((gV σ 20 (a3.toInt.toNat) 1).toInt = -1) ∧ (gV σ 20 (a1.toInt.toNat) 1).toInt = (gV σ 20 (a3.toInt.toNat) 1).toInt ∧ (0 ≤ a2.toInt ∧ 0 ≤ a4.toInt ∧ 0 ≤ a5.toInt ∧ a2.toInt + a5.toInt ≤ (gV σ 20 (a1.toInt.toNat) 2).toInt ∧ a4.toInt + a5.toInt ≤ (gV σ 20 (a3.toInt.toNat) 2).toInt) ∧ r.toInt = a5.toInt))) := by
  refine Mc.of (L0 := [some (.ref (G.1 0 0)), some (.int a1), some (.int a2), some (.int a3), some (.int a4), some (.int a5), none, none]) (by decide) (Nat.le_of_ble_eq_true rfl) rfl ?_
  intro p e s m args below meth c C hr hlk
  have C : Cx p s m args c cX11_copy 8 "LeanTower" := C
  have k0 : (0 : Int32).toInt = 0 := by decide
  have k1 : (1 : Int32).toInt = 1 := by decide
  have u1 : IV (gV σ 20 (a3.toInt.toNat) 2) 0 40 := hI.1 20 (a3.toInt.toNat) 2
  have u2 : IV (gV σ 20 (a1.toInt.toNat) 2) 0 40 := hI.1 20 (a1.toInt.toNat) 2
  refine m_aload_n C dX11_copy_0 rfl rfl ?_
  refine m_iload_n C dX11_copy_1 rfl rfl ?_
  refine m_callV (n := 1) (ci := 10) (st := []) C (c_X11_rowAt l G σ (a1) hI ) (by decide) (by decide) rfl rfl rfl q1_233 q1_230 q1_232 q0_0 q1_1 (by decide +kernel) rfl (by decide) (by decide) rfl (Nat.le_of_ble_eq_true rfl) dX11_copy_2 ?_
  rintro _ τ3 ⟨x6, rfl, i4, f5, h9⟩
  have g8 : Fr MS_X11_copyE AS_X11_copyE σ τ3 := Fr.call (Fr.rf) f5 (by decide)
  have q10 : (gV τ3 20 (a3.toInt.toNat) 1).toInt = (gV σ 20 (a3.toInt.toNat) 1).toInt := congrArg Int32.toInt (show (gV τ3 20 (a3.toInt.toNat) 1) = (gV σ 20 (a3.toInt.toNat) 1) from (show gV τ3 20 (a3.toInt.toNat) 1 = (gV σ 20 (a3.toInt.toNat) 1) from (f5.1 20 (a3.toInt.toNat) (1) (by decide) (by decide)).trans rfl))
  have q11 : (gV τ3 20 (a3.toInt.toNat) 2).toInt = (gV σ 20 (a3.toInt.toNat) 2).toInt := congrArg Int32.toInt (show (gV τ3 20 (a3.toInt.toNat) 2) = (gV σ 20 (a3.toInt.toNat) 2) from (show gV τ3 20 (a3.toInt.toNat) 2 = (gV σ 20 (a3.toInt.toNat) 2) from (f5.1 20 (a3.toInt.toNat) (2) (by decide) (by decide)).trans rfl))
  have q12 : (gV τ3 20 (a1.toInt.toNat) 1).toInt = (gV σ 20 (a1.toInt.toNat) 1).toInt := congrArg Int32.toInt (show (gV τ3 20 (a1.toInt.toNat) 1) = (gV σ 20 (a1.toInt.toNat) 1) from (show gV τ3 20 (a1.toInt.toNat) 1 = (gV σ 20 (a1.toInt.toNat) 1) from (f5.1 20 (a1.toInt.toNat) (1) (by decide) (by decide)).trans rfl))
  have q13 : (gV τ3 20 (a1.toInt.toNat) 2).toInt = (gV σ 20 (a1.toInt.toNat) 2).toInt := congrArg Int32.toInt (show (gV τ3 20 (a1.toInt.toNat) 2) = (gV σ 20 (a1.toInt.toNat) 2) from (show gV τ3 20 (a1.toInt.toNat) 2 = (gV σ 20 (a1.toInt.toNat) 2) from (f5.1 20 (a1.toInt.toNat) (2) (by decide) (by decide)).trans rfl))
  rcases h9 with ⟨rfl, x6q⟩ | ⟨rfl, x6q⟩
  · skip
    show MW p l e _ s m args below meth c _ 8 G 0 0 5 [some (.ref (G.1 0 0)), some (.int a1), some (.int a2), some (.int a3), some (.int a4), some (.int a5), none, none] [.null] τ3
    refine m_astoreN (L1 := [some (.ref (G.1 0 0)), some (.int a1), some (.int a2), some (.int a3), some (.int a4), some (.int a5), some (.null), none]) C dX11_copy_5 (by decide) rfl rfl ?_
    refine m_aload_n C dX11_copy_7 rfl rfl ?_
    refine m_iload_n C dX11_copy_8 rfl rfl ?_
    refine m_callV (n := 1) (ci := 10) (st := []) C (c_X11_rowAt l G τ3 (a3) i4 ) (by decide) (by decide) rfl rfl rfl q1_233 q1_230 q1_232 q0_0 q1_1 (by decide +kernel) rfl (by decide) (by decide) rfl (Nat.le_of_ble_eq_true rfl) dX11_copy_9 ?_
    rintro _ τ14 ⟨x17, rfl, i15, f16, h20⟩
    have g19 : Fr MS_X11_copyE AS_X11_copyE σ τ14 := Fr.call (g8) f16 (by decide)
    have q21 : (gV τ14 20 (a3.toInt.toNat) 1).toInt = (gV σ 20 (a3.toInt.toNat) 1).toInt := congrArg Int32.toInt (show (gV τ14 20 (a3.toInt.toNat) 1) = (gV σ 20 (a3.toInt.toNat) 1) from (show gV τ14 20 (a3.toInt.toNat) 1 = (gV σ 20 (a3.toInt.toNat) 1) from (f16.1 20 (a3.toInt.toNat) (1) (by decide) (by decide)).trans (show gV τ3 20 (a3.toInt.toNat) 1 = (gV σ 20 (a3.toInt.toNat) 1) from (f5.1 20 (a3.toInt.toNat) (1) (by decide) (by decide)).trans rfl)))
    have q22 : (gV τ14 20 (a3.toInt.toNat) 2).toInt = (gV σ 20 (a3.toInt.toNat) 2).toInt := congrArg Int32.toInt (show (gV τ14 20 (a3.toInt.toNat) 2) = (gV σ 20 (a3.toInt.toNat) 2) from (show gV τ14 20 (a3.toInt.toNat) 2 = (gV σ 20 (a3.toInt.toNat) 2) from (f16.1 20 (a3.toInt.toNat) (2) (by decide) (by decide)).trans (show gV τ3 20 (a3.toInt.toNat) 2 = (gV σ 20 (a3.toInt.toNat) 2) from (f5.1 20 (a3.toInt.toNat) (2) (by decide) (by decide)).trans rfl)))
    have q23 : (gV τ14 20 (a1.toInt.toNat) 1).toInt = (gV σ 20 (a1.toInt.toNat) 1).toInt := congrArg Int32.toInt (show (gV τ14 20 (a1.toInt.toNat) 1) = (gV σ 20 (a1.toInt.toNat) 1) from (show gV τ14 20 (a1.toInt.toNat) 1 = (gV σ 20 (a1.toInt.toNat) 1) from (f16.1 20 (a1.toInt.toNat) (1) (by decide) (by decide)).trans (show gV τ3 20 (a1.toInt.toNat) 1 = (gV σ 20 (a1.toInt.toNat) 1) from (f5.1 20 (a1.toInt.toNat) (1) (by decide) (by decide)).trans rfl)))
    have q24 : (gV τ14 20 (a1.toInt.toNat) 2).toInt = (gV σ 20 (a1.toInt.toNat) 2).toInt := congrArg Int32.toInt (show (gV τ14 20 (a1.toInt.toNat) 2) = (gV σ 20 (a1.toInt.toNat) 2) from (show gV τ14 20 (a1.toInt.toNat) 2 = (gV σ 20 (a1.toInt.toNat) 2) from (f16.1 20 (a1.toInt.toNat) (2) (by decide) (by decide)).trans (show gV τ3 20 (a1.toInt.toNat) 2 = (gV σ 20 (a1.toInt.toNat) 2) from (f5.1 20 (a1.toInt.toNat) (2) (by decide) (by decide)).trans rfl)))
    rcases h20 with ⟨rfl, x17q⟩ | ⟨rfl, x17q⟩
    · skip
      show MW p l e _ s m args below meth c _ 8 G 0 0 12 [some (.ref (G.1 0 0)), some (.int a1), some (.int a2), some (.int a3), some (.int a4), some (.int a5), some (.null), none] [.null] τ14
      refine m_astoreN (L1 := [some (.ref (G.1 0 0)), some (.int a1), some (.int a2), some (.int a3), some (.int a4), some (.int a5), some (.null), some (.null)]) C dX11_copy_12 (by decide) rfl rfl ?_
      refine m_aloadN C dX11_copy_14 rfl ?_
      refine m_ifnullN (tgt := 24) C dX11_copy_16 (by decide) ?_
      refine m_ldc (v := (-1000001)) C dX11_copy_24 q1_234 ?_
      exact m_iret C hr hlk (by decide) (by decide) dX11_copy_26 ⟨_, rfl, i15, g19, (iv_wk kc_m1000001 (by decide)), (Or.inl ⟨by have q := kt_m1000001; omega, by have q := kt_m1000001; omega⟩)⟩
    · have b25 : IV a3 0 7 := ⟨by have q1 := (iv_any a3); omega, by have q1 := (iv_any a3); omega⟩
      show MW p l e _ s m args below meth c _ 8 G 0 0 12 [some (.ref (G.1 0 0)), some (.int a1), some (.int a2), some (.int a3), some (.int a4), some (.int a5), some (.null), none] [.ref (G.1 20 (a3.toInt.toNat))] τ14
      refine m_astore (L1 := [some (.ref (G.1 0 0)), some (.int a1), some (.int a2), some (.int a3), some (.int a4), some (.int a5), some (.null), some (.ref (G.1 20 (a3.toInt.toNat)))]) C dX11_copy_12 (by decide) rfl rfl ?_
      refine m_aloadN C dX11_copy_14 rfl ?_
      refine m_ifnullN (tgt := 24) C dX11_copy_16 (by decide) ?_
      refine m_ldc (v := (-1000001)) C dX11_copy_24 q1_234 ?_
      exact m_iret C hr hlk (by decide) (by decide) dX11_copy_26 ⟨_, rfl, i15, g19, (iv_wk kc_m1000001 (by decide)), (Or.inl ⟨by have q := kt_m1000001; omega, by have q := kt_m1000001; omega⟩)⟩
  · have b26 : IV a1 0 7 := ⟨by have q1 := (iv_any a1); omega, by have q1 := (iv_any a1); omega⟩
    show MW p l e _ s m args below meth c _ 8 G 0 0 5 [some (.ref (G.1 0 0)), some (.int a1), some (.int a2), some (.int a3), some (.int a4), some (.int a5), none, none] [.ref (G.1 20 (a1.toInt.toNat))] τ3
    refine m_astore (L1 := [some (.ref (G.1 0 0)), some (.int a1), some (.int a2), some (.int a3), some (.int a4), some (.int a5), some (.ref (G.1 20 (a1.toInt.toNat))), none]) C dX11_copy_5 (by decide) rfl rfl ?_
    refine m_aload_n C dX11_copy_7 rfl rfl ?_
    refine m_iload_n C dX11_copy_8 rfl rfl ?_
    refine m_callV (n := 1) (ci := 10) (st := []) C (c_X11_rowAt l G τ3 (a3) i4 ) (by decide) (by decide) rfl rfl rfl q1_233 q1_230 q1_232 q0_0 q1_1 (by decide +kernel) rfl (by decide) (by decide) rfl (Nat.le_of_ble_eq_true rfl) dX11_copy_9 ?_
    rintro _ τ27 ⟨x30, rfl, i28, f29, h33⟩
    have g32 : Fr MS_X11_copyE AS_X11_copyE σ τ27 := Fr.call (g8) f29 (by decide)
    have q34 : (gV τ27 20 (a3.toInt.toNat) 1).toInt = (gV σ 20 (a3.toInt.toNat) 1).toInt := congrArg Int32.toInt (show (gV τ27 20 (a3.toInt.toNat) 1) = (gV σ 20 (a3.toInt.toNat) 1) from (show gV τ27 20 (a3.toInt.toNat) 1 = (gV σ 20 (a3.toInt.toNat) 1) from (f29.1 20 (a3.toInt.toNat) (1) (by decide) (by decide)).trans (show gV τ3 20 (a3.toInt.toNat) 1 = (gV σ 20 (a3.toInt.toNat) 1) from (f5.1 20 (a3.toInt.toNat) (1) (by decide) (by decide)).trans rfl)))
    have q35 : (gV τ27 20 (a3.toInt.toNat) 2).toInt = (gV σ 20 (a3.toInt.toNat) 2).toInt := congrArg Int32.toInt (show (gV τ27 20 (a3.toInt.toNat) 2) = (gV σ 20 (a3.toInt.toNat) 2) from (show gV τ27 20 (a3.toInt.toNat) 2 = (gV σ 20 (a3.toInt.toNat) 2) from (f29.1 20 (a3.toInt.toNat) (2) (by decide) (by decide)).trans (show gV τ3 20 (a3.toInt.toNat) 2 = (gV σ 20 (a3.toInt.toNat) 2) from (f5.1 20 (a3.toInt.toNat) (2) (by decide) (by decide)).trans rfl)))
    have q36 : (gV τ27 20 (a1.toInt.toNat) 1).toInt = (gV σ 20 (a1.toInt.toNat) 1).toInt := congrArg Int32.toInt (show (gV τ27 20 (a1.toInt.toNat) 1) = (gV σ 20 (a1.toInt.toNat) 1) from (show gV τ27 20 (a1.toInt.toNat) 1 = (gV σ 20 (a1.toInt.toNat) 1) from (f29.1 20 (a1.toInt.toNat) (1) (by decide) (by decide)).trans (show gV τ3 20 (a1.toInt.toNat) 1 = (gV σ 20 (a1.toInt.toNat) 1) from (f5.1 20 (a1.toInt.toNat) (1) (by decide) (by decide)).trans rfl)))
    have q37 : (gV τ27 20 (a1.toInt.toNat) 2).toInt = (gV σ 20 (a1.toInt.toNat) 2).toInt := congrArg Int32.toInt (show (gV τ27 20 (a1.toInt.toNat) 2) = (gV σ 20 (a1.toInt.toNat) 2) from (show gV τ27 20 (a1.toInt.toNat) 2 = (gV σ 20 (a1.toInt.toNat) 2) from (f29.1 20 (a1.toInt.toNat) (2) (by decide) (by decide)).trans (show gV τ3 20 (a1.toInt.toNat) 2 = (gV σ 20 (a1.toInt.toNat) 2) from (f5.1 20 (a1.toInt.toNat) (2) (by decide) (by decide)).trans rfl)))
    rcases h33 with ⟨rfl, x30q⟩ | ⟨rfl, x30q⟩
    · skip
      show MW p l e _ s m args below meth c _ 8 G 0 0 12 [some (.ref (G.1 0 0)), some (.int a1), some (.int a2), some (.int a3), some (.int a4), some (.int a5), some (.ref (G.1 20 (a1.toInt.toNat))), none] [.null] τ27
      refine m_astoreN (L1 := [some (.ref (G.1 0 0)), some (.int a1), some (.int a2), some (.int a3), some (.int a4), some (.int a5), some (.ref (G.1 20 (a1.toInt.toNat))), some (.null)]) C dX11_copy_12 (by decide) rfl rfl ?_
      refine m_aload C dX11_copy_14 rfl ?_
      refine m_ifnull C dX11_copy_16 ?_
      refine m_aloadN C dX11_copy_19 rfl ?_
      refine m_ifnonnullN C dX11_copy_21 ?_
      refine m_ldc (v := (-1000001)) C dX11_copy_24 q1_234 ?_
      exact m_iret C hr hlk (by decide) (by decide) dX11_copy_26 ⟨_, rfl, i28, g32, (iv_wk kc_m1000001 (by decide)), (Or.inl ⟨by have q := kt_m1000001; omega, by have q := kt_m1000001; omega⟩)⟩
    · have b38 : IV a3 0 7 := ⟨by have q1 := (iv_any a3); omega, by have q1 := (iv_any a3); omega⟩
      show MW p l e _ s m args below meth c _ 8 G 0 0 12 [some (.ref (G.1 0 0)), some (.int a1), some (.int a2), some (.int a3), some (.int a4), some (.int a5), some (.ref (G.1 20 (a1.toInt.toNat))), none] [.ref (G.1 20 (a3.toInt.toNat))] τ27
      refine m_astore (L1 := [some (.ref (G.1 0 0)), some (.int a1), some (.int a2), some (.int a3), some (.int a4), some (.int a5), some (.ref (G.1 20 (a1.toInt.toNat))), some (.ref (G.1 20 (a3.toInt.toNat)))]) C dX11_copy_12 (by decide) rfl rfl ?_
      refine m_aload C dX11_copy_14 rfl ?_
      refine m_ifnull C dX11_copy_16 ?_
      refine m_aload C dX11_copy_19 rfl ?_
      refine m_ifnonnull (tgt := 27) C dX11_copy_21 (by decide) ?_
      refine m_aload C dX11_copy_27 rfl ?_
      refine m_callV (n := 0) (ci := 6) (st := []) C (c_X7_isMissingE l G τ27 (j := (a1.toInt.toNat)) (iv_nat b26 (by decide))  i28 ) (by decide) (iv_nat b26 (by decide)) rfl rfl rfl q2_15 q2_12 q2_13 q2_14 q1_6 (by decide +kernel) rfl (by decide) (by decide) rfl (Nat.le_of_ble_eq_true rfl) dX11_copy_29 ?_
      rintro _ τ39 ⟨x42, rfl, i40, f41, b43, h45⟩
      have g44 : Fr MS_X11_copyE AS_X11_copyE σ τ39 := Fr.call (g32) f41 (by decide)
      have q46 : (gV τ39 20 (a3.toInt.toNat) 1).toInt = (gV σ 20 (a3.toInt.toNat) 1).toInt := congrArg Int32.toInt (show (gV τ39 20 (a3.toInt.toNat) 1) = (gV σ 20 (a3.toInt.toNat) 1) from (show gV τ39 20 (a3.toInt.toNat) 1 = (gV σ 20 (a3.toInt.toNat) 1) from (f41.1 20 (a3.toInt.toNat) (1) (by decide) (by decide)).trans (show gV τ27 20 (a3.toInt.toNat) 1 = (gV σ 20 (a3.toInt.toNat) 1) from (f29.1 20 (a3.toInt.toNat) (1) (by decide) (by decide)).trans (show gV τ3 20 (a3.toInt.toNat) 1 = (gV σ 20 (a3.toInt.toNat) 1) from (f5.1 20 (a3.toInt.toNat) (1) (by decide) (by decide)).trans rfl))))
      have q47 : (gV τ39 20 (a3.toInt.toNat) 2).toInt = (gV σ 20 (a3.toInt.toNat) 2).toInt := congrArg Int32.toInt (show (gV τ39 20 (a3.toInt.toNat) 2) = (gV σ 20 (a3.toInt.toNat) 2) from (show gV τ39 20 (a3.toInt.toNat) 2 = (gV σ 20 (a3.toInt.toNat) 2) from (f41.1 20 (a3.toInt.toNat) (2) (by decide) (by decide)).trans (show gV τ27 20 (a3.toInt.toNat) 2 = (gV σ 20 (a3.toInt.toNat) 2) from (f29.1 20 (a3.toInt.toNat) (2) (by decide) (by decide)).trans (show gV τ3 20 (a3.toInt.toNat) 2 = (gV σ 20 (a3.toInt.toNat) 2) from (f5.1 20 (a3.toInt.toNat) (2) (by decide) (by decide)).trans rfl))))
      have q48 : (gV τ39 20 (a1.toInt.toNat) 1).toInt = (gV σ 20 (a1.toInt.toNat) 1).toInt := congrArg Int32.toInt (show (gV τ39 20 (a1.toInt.toNat) 1) = (gV σ 20 (a1.toInt.toNat) 1) from (show gV τ39 20 (a1.toInt.toNat) 1 = (gV σ 20 (a1.toInt.toNat) 1) from (f41.1 20 (a1.toInt.toNat) (1) (by decide) (by decide)).trans (show gV τ27 20 (a1.toInt.toNat) 1 = (gV σ 20 (a1.toInt.toNat) 1) from (f29.1 20 (a1.toInt.toNat) (1) (by decide) (by decide)).trans (show gV τ3 20 (a1.toInt.toNat) 1 = (gV σ 20 (a1.toInt.toNat) 1) from (f5.1 20 (a1.toInt.toNat) (1) (by decide) (by decide)).trans rfl))))
      have q49 : (gV τ39 20 (a1.toInt.toNat) 2).toInt = (gV σ 20 (a1.toInt.toNat) 2).toInt := congrArg Int32.toInt (show (gV τ39 20 (a1.toInt.toNat) 2) = (gV σ 20 (a1.toInt.toNat) 2) from (show gV τ39 20 (a1.toInt.toNat) 2 = (gV σ 20 (a1.toInt.toNat) 2) from (f41.1 20 (a1.toInt.toNat) (2) (by decide) (by decide)).trans (show gV τ27 20 (a1.toInt.toNat) 2 = (gV σ 20 (a1.toInt.toNat) 2) from (f29.1 20 (a1.toInt.toNat) (2) (by decide) (by decide)).trans (show gV τ3 20 (a1.toInt.toNat) 2 = (gV σ 20 (a1.toInt.toNat) 2) from (f5.1 20 (a1.toInt.toNat) (2) (by decide) (by decide)).trans rfl))))
      rcases h45 with ⟨h45_0, h45_1⟩ | ⟨h45_0, h45_1⟩
      · skip
        have b50 : IV x42 1 1 := ⟨by omega, by omega⟩
        show MW p l e _ s m args below meth c _ 8 G 0 0 32 [some (.ref (G.1 0 0)), some (.int a1), some (.int a2), some (.int a3), some (.int a4), some (.int a5), some (.ref (G.1 20 (a1.toInt.toNat))), some (.ref (G.1 20 (a3.toInt.toNat)))] [.int x42] τ39
        refine m_if_ne (tgt := 43) C dX11_copy_32 (by decide) (fun c51 => ?_) (fun c51 => ?_)
        · have f52 : x42.toInt ≠ 0 := by
            have q : _ := c51
            simp only [ti_nle, ti_nlt, ti_le, ti_lt, ti_eq, ti_ne, Classical.not_not, kt_0] at q
            omega
          refine m_aload_n C dX11_copy_43 rfl rfl ?_
          refine m_iconst (v := 1) C dX11_copy_44 (by decide) ?_
          refine m_callV (n := 1) (ci := 10) (st := []) C (c_X11_found l G τ39 (1) i40 (iv_wk kc_1 (by decide))) (by decide) (by decide) rfl rfl rfl q1_238 q1_235 q1_237 q0_1 q1_1 (by decide +kernel) rfl (by decide) (by decide) rfl (Nat.le_of_ble_eq_true rfl) dX11_copy_45 ?_
          rintro _ τ53 ⟨x56, rfl, i54, f55, b57, h59⟩
          have g58 : Fr MS_X11_copyE AS_X11_copyE σ τ53 := Fr.call (g44) f55 (by decide)
          have q60 : (gV τ53 20 (a3.toInt.toNat) 1).toInt = (gV σ 20 (a3.toInt.toNat) 1).toInt := congrArg Int32.toInt (show (gV τ53 20 (a3.toInt.toNat) 1) = (gV σ 20 (a3.toInt.toNat) 1) from (show gV τ53 20 (a3.toInt.toNat) 1 = (gV σ 20 (a3.toInt.toNat) 1) from (f55.1 20 (a3.toInt.toNat) (1) (by decide) (by decide)).trans (show gV τ39 20 (a3.toInt.toNat) 1 = (gV σ 20 (a3.toInt.toNat) 1) from (f41.1 20 (a3.toInt.toNat) (1) (by decide) (by decide)).trans (show gV τ27 20 (a3.toInt.toNat) 1 = (gV σ 20 (a3.toInt.toNat) 1) from (f29.1 20 (a3.toInt.toNat) (1) (by decide) (by decide)).trans (show gV τ3 20 (a3.toInt.toNat) 1 = (gV σ 20 (a3.toInt.toNat) 1) from (f5.1 20 (a3.toInt.toNat) (1) (by decide) (by decide)).trans rfl)))))
          have q61 : (gV τ53 20 (a3.toInt.toNat) 2).toInt = (gV σ 20 (a3.toInt.toNat) 2).toInt := congrArg Int32.toInt (show (gV τ53 20 (a3.toInt.toNat) 2) = (gV σ 20 (a3.toInt.toNat) 2) from (show gV τ53 20 (a3.toInt.toNat) 2 = (gV σ 20 (a3.toInt.toNat) 2) from (f55.1 20 (a3.toInt.toNat) (2) (by decide) (by decide)).trans (show gV τ39 20 (a3.toInt.toNat) 2 = (gV σ 20 (a3.toInt.toNat) 2) from (f41.1 20 (a3.toInt.toNat) (2) (by decide) (by decide)).trans (show gV τ27 20 (a3.toInt.toNat) 2 = (gV σ 20 (a3.toInt.toNat) 2) from (f29.1 20 (a3.toInt.toNat) (2) (by decide) (by decide)).trans (show gV τ3 20 (a3.toInt.toNat) 2 = (gV σ 20 (a3.toInt.toNat) 2) from (f5.1 20 (a3.toInt.toNat) (2) (by decide) (by decide)).trans rfl)))))
          have q62 : (gV τ53 20 (a1.toInt.toNat) 1).toInt = (gV σ 20 (a1.toInt.toNat) 1).toInt := congrArg Int32.toInt (show (gV τ53 20 (a1.toInt.toNat) 1) = (gV σ 20 (a1.toInt.toNat) 1) from (show gV τ53 20 (a1.toInt.toNat) 1 = (gV σ 20 (a1.toInt.toNat) 1) from (f55.1 20 (a1.toInt.toNat) (1) (by decide) (by decide)).trans (show gV τ39 20 (a1.toInt.toNat) 1 = (gV σ 20 (a1.toInt.toNat) 1) from (f41.1 20 (a1.toInt.toNat) (1) (by decide) (by decide)).trans (show gV τ27 20 (a1.toInt.toNat) 1 = (gV σ 20 (a1.toInt.toNat) 1) from (f29.1 20 (a1.toInt.toNat) (1) (by decide) (by decide)).trans (show gV τ3 20 (a1.toInt.toNat) 1 = (gV σ 20 (a1.toInt.toNat) 1) from (f5.1 20 (a1.toInt.toNat) (1) (by decide) (by decide)).trans rfl)))))
          have q63 : (gV τ53 20 (a1.toInt.toNat) 2).toInt = (gV σ 20 (a1.toInt.toNat) 2).toInt := congrArg Int32.toInt (show (gV τ53 20 (a1.toInt.toNat) 2) = (gV σ 20 (a1.toInt.toNat) 2) from (show gV τ53 20 (a1.toInt.toNat) 2 = (gV σ 20 (a1.toInt.toNat) 2) from (f55.1 20 (a1.toInt.toNat) (2) (by decide) (by decide)).trans (show gV τ39 20 (a1.toInt.toNat) 2 = (gV σ 20 (a1.toInt.toNat) 2) from (f41.1 20 (a1.toInt.toNat) (2) (by decide) (by decide)).trans (show gV τ27 20 (a1.toInt.toNat) 2 = (gV σ 20 (a1.toInt.toNat) 2) from (f29.1 20 (a1.toInt.toNat) (2) (by decide) (by decide)).trans (show gV τ3 20 (a1.toInt.toNat) 2 = (gV σ 20 (a1.toInt.toNat) 2) from (f5.1 20 (a1.toInt.toNat) (2) (by decide) (by decide)).trans rfl)))))
          have q64 := kt_1
          show MW p l e _ s m args below meth c _ 8 G 0 0 48 [some (.ref (G.1 0 0)), some (.int a1), some (.int a2), some (.int a3), some (.int a4), some (.int a5), some (.ref (G.1 20 (a1.toInt.toNat))), some (.ref (G.1 20 (a3.toInt.toNat)))] [.int x56] τ53
          exact m_iret C hr hlk (by decide) (by decide) dX11_copy_48 ⟨_, rfl, i54, g58, (iv_wk b57 (by decide)), (Or.inr (Or.inl ⟨by omega, by omega, by omega⟩))⟩
        · exfalso
          have q : _ := c51
          simp only [ti_nle, ti_nlt, ti_le, ti_lt, ti_eq, ti_ne, Classical.not_not, kt_0] at q
          have q1 := b50; have q2 := kc_0; omega
      · skip
        have b66 : IV x42 0 0 := ⟨by omega, by omega⟩
        show MW p l e _ s m args below meth c _ 8 G 0 0 32 [some (.ref (G.1 0 0)), some (.int a1), some (.int a2), some (.int a3), some (.int a4), some (.int a5), some (.ref (G.1 20 (a1.toInt.toNat))), some (.ref (G.1 20 (a3.toInt.toNat)))] [.int x42] τ39
        refine m_if_ne (tgt := 43) C dX11_copy_32 (by decide) (fun c67 => ?_) (fun c67 => ?_)
        · exfalso
          have q : _ := c67
          simp only [ti_nle, ti_nlt, ti_le, ti_lt, ti_eq, ti_ne, Classical.not_not, kt_0] at q
          have q1 := b66; have q2 := kc_0; omega
        · have f69 : x42.toInt = 0 := by
            have q : _ := c67
            simp only [ti_nle, ti_nlt, ti_le, ti_lt, ti_eq, ti_ne, Classical.not_not, kt_0] at q
            omega
          refine m_aload C dX11_copy_35 rfl ?_
          refine m_callV (n := 0) (ci := 6) (st := []) C (c_X7_isMissingE l G τ39 (j := (a3.toInt.toNat)) (iv_nat b38 (by decide))  i40 ) (by decide) (iv_nat b38 (by decide)) rfl rfl rfl q2_15 q2_12 q2_13 q2_14 q1_6 (by decide +kernel) rfl (by decide) (by decide) rfl (Nat.le_of_ble_eq_true rfl) dX11_copy_37 ?_
          rintro _ τ70 ⟨x73, rfl, i71, f72, b74, h76⟩
          have g75 : Fr MS_X11_copyE AS_X11_copyE σ τ70 := Fr.call (g44) f72 (by decide)
          have q77 : (gV τ70 20 (a3.toInt.toNat) 1).toInt = (gV σ 20 (a3.toInt.toNat) 1).toInt := congrArg Int32.toInt (show (gV τ70 20 (a3.toInt.toNat) 1) = (gV σ 20 (a3.toInt.toNat) 1) from (show gV τ70 20 (a3.toInt.toNat) 1 = (gV σ 20 (a3.toInt.toNat) 1) from (f72.1 20 (a3.toInt.toNat) (1) (by decide) (by decide)).trans (show gV τ39 20 (a3.toInt.toNat) 1 = (gV σ 20 (a3.toInt.toNat) 1) from (f41.1 20 (a3.toInt.toNat) (1) (by decide) (by decide)).trans (show gV τ27 20 (a3.toInt.toNat) 1 = (gV σ 20 (a3.toInt.toNat) 1) from (f29.1 20 (a3.toInt.toNat) (1) (by decide) (by decide)).trans (show gV τ3 20 (a3.toInt.toNat) 1 = (gV σ 20 (a3.toInt.toNat) 1) from (f5.1 20 (a3.toInt.toNat) (1) (by decide) (by decide)).trans rfl)))))
          have q78 : (gV τ70 20 (a3.toInt.toNat) 2).toInt = (gV σ 20 (a3.toInt.toNat) 2).toInt := congrArg Int32.toInt (show (gV τ70 20 (a3.toInt.toNat) 2) = (gV σ 20 (a3.toInt.toNat) 2) from (show gV τ70 20 (a3.toInt.toNat) 2 = (gV σ 20 (a3.toInt.toNat) 2) from (f72.1 20 (a3.toInt.toNat) (2) (by decide) (by decide)).trans (show gV τ39 20 (a3.toInt.toNat) 2 = (gV σ 20 (a3.toInt.toNat) 2) from (f41.1 20 (a3.toInt.toNat) (2) (by decide) (by decide)).trans (show gV τ27 20 (a3.toInt.toNat) 2 = (gV σ 20 (a3.toInt.toNat) 2) from (f29.1 20 (a3.toInt.toNat) (2) (by decide) (by decide)).trans (show gV τ3 20 (a3.toInt.toNat) 2 = (gV σ 20 (a3.toInt.toNat) 2) from (f5.1 20 (a3.toInt.toNat) (2) (by decide) (by decide)).trans rfl)))))
          have q79 : (gV τ70 20 (a1.toInt.toNat) 1).toInt = (gV σ 20 (a1.toInt.toNat) 1).toInt := congrArg Int32.toInt (show (gV τ70 20 (a1.toInt.toNat) 1) = (gV σ 20 (a1.toInt.toNat) 1) from (show gV τ70 20 (a1.toInt.toNat) 1 = (gV σ 20 (a1.toInt.toNat) 1) from (f72.1 20 (a1.toInt.toNat) (1) (by decide) (by decide)).trans (show gV τ39 20 (a1.toInt.toNat) 1 = (gV σ 20 (a1.toInt.toNat) 1) from (f41.1 20 (a1.toInt.toNat) (1) (by decide) (by decide)).trans (show gV τ27 20 (a1.toInt.toNat) 1 = (gV σ 20 (a1.toInt.toNat) 1) from (f29.1 20 (a1.toInt.toNat) (1) (by decide) (by decide)).trans (show gV τ3 20 (a1.toInt.toNat) 1 = (gV σ 20 (a1.toInt.toNat) 1) from (f5.1 20 (a1.toInt.toNat) (1) (by decide) (by decide)).trans rfl)))))
          have q80 : (gV τ70 20 (a1.toInt.toNat) 2).toInt = (gV σ 20 (a1.toInt.toNat) 2).toInt := congrArg Int32.toInt (show (gV τ70 20 (a1.toInt.toNat) 2) = (gV σ 20 (a1.toInt.toNat) 2) from (show gV τ70 20 (a1.toInt.toNat) 2 = (gV σ 20 (a1.toInt.toNat) 2) from (f72.1 20 (a1.toInt.toNat) (2) (by decide) (by decide)).trans (show gV τ39 20 (a1.toInt.toNat) 2 = (gV σ 20 (a1.toInt.toNat) 2) from (f41.1 20 (a1.toInt.toNat) (2) (by decide) (by decide)).trans (show gV τ27 20 (a1.toInt.toNat) 2 = (gV σ 20 (a1.toInt.toNat) 2) from (f29.1 20 (a1.toInt.toNat) (2) (by decide) (by decide)).trans (show gV τ3 20 (a1.toInt.toNat) 2 = (gV σ 20 (a1.toInt.toNat) 2) from (f5.1 20 (a1.toInt.toNat) (2) (by decide) (by decide)).trans rfl)))))
          rcases h76 with ⟨h76_0, h76_1⟩ | ⟨h76_0, h76_1⟩
          · skip
            have b81 : IV x73 1 1 := ⟨by omega, by omega⟩
            show MW p l e _ s m args below meth c _ 8 G 0 0 40 [some (.ref (G.1 0 0)), some (.int a1), some (.int a2), some (.int a3), some (.int a4), some (.int a5), some (.ref (G.1 20 (a1.toInt.toNat))), some (.ref (G.1 20 (a3.toInt.toNat)))] [.int x73] τ70
            refine m_if_eq (tgt := 49) C dX11_copy_40 (by decide) (fun c82 => ?_) (fun c82 => ?_)
            · exfalso
              have q : _ := c82
              simp only [ti_nle, ti_nlt, ti_le, ti_lt, ti_eq, ti_ne, Classical.not_not, kt_0] at q
              have q1 := b81; have q2 := kc_0; omega
            · have f84 : x73.toInt ≠ 0 := by
                have q : _ := c82
                simp only [ti_nle, ti_nlt, ti_le, ti_lt, ti_eq, ti_ne, Classical.not_not, kt_0] at q
                omega
              refine m_aload_n C dX11_copy_43 rfl rfl ?_
              refine m_iconst (v := 1) C dX11_copy_44 (by decide) ?_
              refine m_callV (n := 1) (ci := 10) (st := []) C (c_X11_found l G τ70 (1) i71 (iv_wk kc_1 (by decide))) (by decide) (by decide) rfl rfl rfl q1_238 q1_235 q1_237 q0_1 q1_1 (by decide +kernel) rfl (by decide) (by decide) rfl (Nat.le_of_ble_eq_true rfl) dX11_copy_45 ?_
              rintro _ τ85 ⟨x88, rfl, i86, f87, b89, h91⟩
              have g90 : Fr MS_X11_copyE AS_X11_copyE σ τ85 := Fr.call (g75) f87 (by decide)
              have q92 : (gV τ85 20 (a3.toInt.toNat) 1).toInt = (gV σ 20 (a3.toInt.toNat) 1).toInt := congrArg Int32.toInt (show (gV τ85 20 (a3.toInt.toNat) 1) = (gV σ 20 (a3.toInt.toNat) 1) from (show gV τ85 20 (a3.toInt.toNat) 1 = (gV σ 20 (a3.toInt.toNat) 1) from (f87.1 20 (a3.toInt.toNat) (1) (by decide) (by decide)).trans (show gV τ70 20 (a3.toInt.toNat) 1 = (gV σ 20 (a3.toInt.toNat) 1) from (f72.1 20 (a3.toInt.toNat) (1) (by decide) (by decide)).trans (show gV τ39 20 (a3.toInt.toNat) 1 = (gV σ 20 (a3.toInt.toNat) 1) from (f41.1 20 (a3.toInt.toNat) (1) (by decide) (by decide)).trans (show gV τ27 20 (a3.toInt.toNat) 1 = (gV σ 20 (a3.toInt.toNat) 1) from (f29.1 20 (a3.toInt.toNat) (1) (by decide) (by decide)).trans (show gV τ3 20 (a3.toInt.toNat) 1 = (gV σ 20 (a3.toInt.toNat) 1) from (f5.1 20 (a3.toInt.toNat) (1) (by decide) (by decide)).trans rfl))))))
              have q93 : (gV τ85 20 (a3.toInt.toNat) 2).toInt = (gV σ 20 (a3.toInt.toNat) 2).toInt := congrArg Int32.toInt (show (gV τ85 20 (a3.toInt.toNat) 2) = (gV σ 20 (a3.toInt.toNat) 2) from (show gV τ85 20 (a3.toInt.toNat) 2 = (gV σ 20 (a3.toInt.toNat) 2) from (f87.1 20 (a3.toInt.toNat) (2) (by decide) (by decide)).trans (show gV τ70 20 (a3.toInt.toNat) 2 = (gV σ 20 (a3.toInt.toNat) 2) from (f72.1 20 (a3.toInt.toNat) (2) (by decide) (by decide)).trans (show gV τ39 20 (a3.toInt.toNat) 2 = (gV σ 20 (a3.toInt.toNat) 2) from (f41.1 20 (a3.toInt.toNat) (2) (by decide) (by decide)).trans (show gV τ27 20 (a3.toInt.toNat) 2 = (gV σ 20 (a3.toInt.toNat) 2) from (f29.1 20 (a3.toInt.toNat) (2) (by decide) (by decide)).trans (show gV τ3 20 (a3.toInt.toNat) 2 = (gV σ 20 (a3.toInt.toNat) 2) from (f5.1 20 (a3.toInt.toNat) (2) (by decide) (by decide)).trans rfl))))))
              have q94 : (gV τ85 20 (a1.toInt.toNat) 1).toInt = (gV σ 20 (a1.toInt.toNat) 1).toInt := congrArg Int32.toInt (show (gV τ85 20 (a1.toInt.toNat) 1) = (gV σ 20 (a1.toInt.toNat) 1) from (show gV τ85 20 (a1.toInt.toNat) 1 = (gV σ 20 (a1.toInt.toNat) 1) from (f87.1 20 (a1.toInt.toNat) (1) (by decide) (by decide)).trans (show gV τ70 20 (a1.toInt.toNat) 1 = (gV σ 20 (a1.toInt.toNat) 1) from (f72.1 20 (a1.toInt.toNat) (1) (by decide) (by decide)).trans (show gV τ39 20 (a1.toInt.toNat) 1 = (gV σ 20 (a1.toInt.toNat) 1) from (f41.1 20 (a1.toInt.toNat) (1) (by decide) (by decide)).trans (show gV τ27 20 (a1.toInt.toNat) 1 = (gV σ 20 (a1.toInt.toNat) 1) from (f29.1 20 (a1.toInt.toNat) (1) (by decide) (by decide)).trans (show gV τ3 20 (a1.toInt.toNat) 1 = (gV σ 20 (a1.toInt.toNat) 1) from (f5.1 20 (a1.toInt.toNat) (1) (by decide) (by decide)).trans rfl))))))
              have q95 : (gV τ85 20 (a1.toInt.toNat) 2).toInt = (gV σ 20 (a1.toInt.toNat) 2).toInt := congrArg Int32.toInt (show (gV τ85 20 (a1.toInt.toNat) 2) = (gV σ 20 (a1.toInt.toNat) 2) from (show gV τ85 20 (a1.toInt.toNat) 2 = (gV σ 20 (a1.toInt.toNat) 2) from (f87.1 20 (a1.toInt.toNat) (2) (by decide) (by decide)).trans (show gV τ70 20 (a1.toInt.toNat) 2 = (gV σ 20 (a1.toInt.toNat) 2) from (f72.1 20 (a1.toInt.toNat) (2) (by decide) (by decide)).trans (show gV τ39 20 (a1.toInt.toNat) 2 = (gV σ 20 (a1.toInt.toNat) 2) from (f41.1 20 (a1.toInt.toNat) (2) (by decide) (by decide)).trans (show gV τ27 20 (a1.toInt.toNat) 2 = (gV σ 20 (a1.toInt.toNat) 2) from (f29.1 20 (a1.toInt.toNat) (2) (by decide) (by decide)).trans (show gV τ3 20 (a1.toInt.toNat) 2 = (gV σ 20 (a1.toInt.toNat) 2) from (f5.1 20 (a1.toInt.toNat) (2) (by decide) (by decide)).trans rfl))))))
              have q96 := kt_1
              show MW p l e _ s m args below meth c _ 8 G 0 0 48 [some (.ref (G.1 0 0)), some (.int a1), some (.int a2), some (.int a3), some (.int a4), some (.int a5), some (.ref (G.1 20 (a1.toInt.toNat))), some (.ref (G.1 20 (a3.toInt.toNat)))] [.int x88] τ85
              exact m_iret C hr hlk (by decide) (by decide) dX11_copy_48 ⟨_, rfl, i86, g90, (iv_wk b89 (by decide)), (Or.inr (Or.inl ⟨by omega, by omega, by omega⟩))⟩
          · skip
            have b97 : IV x73 0 0 := ⟨by omega, by omega⟩
            show MW p l e _ s m args below meth c _ 8 G 0 0 40 [some (.ref (G.1 0 0)), some (.int a1), some (.int a2), some (.int a3), some (.int a4), some (.int a5), some (.ref (G.1 20 (a1.toInt.toNat))), some (.ref (G.1 20 (a3.toInt.toNat)))] [.int x73] τ70
            refine m_if_eq (tgt := 49) C dX11_copy_40 (by decide) (fun c98 => ?_) (fun c98 => ?_)
            · have f99 : x73.toInt = 0 := by
                have q : _ := c98
                simp only [ti_nle, ti_nlt, ti_le, ti_lt, ti_eq, ti_ne, Classical.not_not, kt_0] at q
                omega
              refine m_aload C dX11_copy_49 rfl ?_
              refine g_20_1 C (iv_nat b26 (by decide)) q1_175 dX11_copy_51 ?_
              refine m_eqs (w := (gV σ 20 (a1.toInt.toNat) 1)) (show gV τ70 20 (a1.toInt.toNat) 1 = (gV σ 20 (a1.toInt.toNat) 1) from (f72.1 20 (a1.toInt.toNat) (1) (by decide) (by decide)).trans (show gV τ39 20 (a1.toInt.toNat) 1 = (gV σ 20 (a1.toInt.toNat) 1) from (f41.1 20 (a1.toInt.toNat) (1) (by decide) (by decide)).trans (show gV τ27 20 (a1.toInt.toNat) 1 = (gV σ 20 (a1.toInt.toNat) 1) from (f29.1 20 (a1.toInt.toNat) (1) (by decide) (by decide)).trans (show gV τ3 20 (a1.toInt.toNat) 1 = (gV σ 20 (a1.toInt.toNat) 1) from (f5.1 20 (a1.toInt.toNat) (1) (by decide) (by decide)).trans rfl)))) ?_
              refine m_aload C dX11_copy_54 rfl ?_
              refine g_20_1 C (iv_nat b38 (by decide)) q1_175 dX11_copy_56 ?_
              refine m_eqs (w := (gV σ 20 (a3.toInt.toNat) 1)) (show gV τ70 20 (a3.toInt.toNat) 1 = (gV σ 20 (a3.toInt.toNat) 1) from (f72.1 20 (a3.toInt.toNat) (1) (by decide) (by decide)).trans (show gV τ39 20 (a3.toInt.toNat) 1 = (gV σ 20 (a3.toInt.toNat) 1) from (f41.1 20 (a3.toInt.toNat) (1) (by decide) (by decide)).trans (show gV τ27 20 (a3.toInt.toNat) 1 = (gV σ 20 (a3.toInt.toNat) 1) from (f29.1 20 (a3.toInt.toNat) (1) (by decide) (by decide)).trans (show gV τ3 20 (a3.toInt.toNat) 1 = (gV σ 20 (a3.toInt.toNat) 1) from (f5.1 20 (a3.toInt.toNat) (1) (by decide) (by decide)).trans rfl)))) ?_
              refine m_icmp_eq (tgt := 68) C dX11_copy_59 (by decide) (fun c100 => ?_) (fun c100 => ?_)
              · have f101 : (gV σ 20 (a1.toInt.toNat) 1).toInt = (gV σ 20 (a3.toInt.toNat) 1).toInt := by
                  have q : _ := c100
                  simp only [ti_nle, ti_nlt, ti_le, ti_lt, ti_eq, ti_ne, Classical.not_not] at q
                  omega
                refine m_aload C dX11_copy_68 rfl ?_
                refine m_iload_n C dX11_copy_70 rfl rfl ?_
                refine m_iload C dX11_copy_71 rfl ?_
                refine m_callV (n := 2) (ci := 6) (st := []) C (c_X7_reachesE l G τ70 (j := (a1.toInt.toNat)) (iv_nat b26 (by decide)) (a2) (a5) i71 ) (by decide) (iv_nat b26 (by decide)) rfl rfl rfl q2_27 q2_24 q2_25 q2_26 q1_6 (by decide +kernel) rfl (by decide) (by decide) rfl (Nat.le_of_ble_eq_true rfl) dX11_copy_73 ?_
                rintro _ τ102 ⟨x105, rfl, i103, f104, b106, h108⟩
                have g107 : Fr MS_X11_copyE AS_X11_copyE σ τ102 := Fr.call (g75) f104 (by decide)
                have q109 : (gV τ102 20 (a3.toInt.toNat) 1).toInt = (gV σ 20 (a3.toInt.toNat) 1).toInt := congrArg Int32.toInt (show (gV τ102 20 (a3.toInt.toNat) 1) = (gV σ 20 (a3.toInt.toNat) 1) from (show gV τ102 20 (a3.toInt.toNat) 1 = (gV σ 20 (a3.toInt.toNat) 1) from (f104.1 20 (a3.toInt.toNat) (1) (by decide) (by decide)).trans (show gV τ70 20 (a3.toInt.toNat) 1 = (gV σ 20 (a3.toInt.toNat) 1) from (f72.1 20 (a3.toInt.toNat) (1) (by decide) (by decide)).trans (show gV τ39 20 (a3.toInt.toNat) 1 = (gV σ 20 (a3.toInt.toNat) 1) from (f41.1 20 (a3.toInt.toNat) (1) (by decide) (by decide)).trans (show gV τ27 20 (a3.toInt.toNat) 1 = (gV σ 20 (a3.toInt.toNat) 1) from (f29.1 20 (a3.toInt.toNat) (1) (by decide) (by decide)).trans (show gV τ3 20 (a3.toInt.toNat) 1 = (gV σ 20 (a3.toInt.toNat) 1) from (f5.1 20 (a3.toInt.toNat) (1) (by decide) (by decide)).trans rfl))))))
                have q110 : (gV τ102 20 (a3.toInt.toNat) 2).toInt = (gV σ 20 (a3.toInt.toNat) 2).toInt := congrArg Int32.toInt (show (gV τ102 20 (a3.toInt.toNat) 2) = (gV σ 20 (a3.toInt.toNat) 2) from (show gV τ102 20 (a3.toInt.toNat) 2 = (gV σ 20 (a3.toInt.toNat) 2) from (f104.1 20 (a3.toInt.toNat) (2) (by decide) (by decide)).trans (show gV τ70 20 (a3.toInt.toNat) 2 = (gV σ 20 (a3.toInt.toNat) 2) from (f72.1 20 (a3.toInt.toNat) (2) (by decide) (by decide)).trans (show gV τ39 20 (a3.toInt.toNat) 2 = (gV σ 20 (a3.toInt.toNat) 2) from (f41.1 20 (a3.toInt.toNat) (2) (by decide) (by decide)).trans (show gV τ27 20 (a3.toInt.toNat) 2 = (gV σ 20 (a3.toInt.toNat) 2) from (f29.1 20 (a3.toInt.toNat) (2) (by decide) (by decide)).trans (show gV τ3 20 (a3.toInt.toNat) 2 = (gV σ 20 (a3.toInt.toNat) 2) from (f5.1 20 (a3.toInt.toNat) (2) (by decide) (by decide)).trans rfl))))))
                have q111 : (gV τ102 20 (a1.toInt.toNat) 1).toInt = (gV σ 20 (a1.toInt.toNat) 1).toInt := congrArg Int32.toInt (show (gV τ102 20 (a1.toInt.toNat) 1) = (gV σ 20 (a1.toInt.toNat) 1) from (show gV τ102 20 (a1.toInt.toNat) 1 = (gV σ 20 (a1.toInt.toNat) 1) from (f104.1 20 (a1.toInt.toNat) (1) (by decide) (by decide)).trans (show gV τ70 20 (a1.toInt.toNat) 1 = (gV σ 20 (a1.toInt.toNat) 1) from (f72.1 20 (a1.toInt.toNat) (1) (by decide) (by decide)).trans (show gV τ39 20 (a1.toInt.toNat) 1 = (gV σ 20 (a1.toInt.toNat) 1) from (f41.1 20 (a1.toInt.toNat) (1) (by decide) (by decide)).trans (show gV τ27 20 (a1.toInt.toNat) 1 = (gV σ 20 (a1.toInt.toNat) 1) from (f29.1 20 (a1.toInt.toNat) (1) (by decide) (by decide)).trans (show gV τ3 20 (a1.toInt.toNat) 1 = (gV σ 20 (a1.toInt.toNat) 1) from (f5.1 20 (a1.toInt.toNat) (1) (by decide) (by decide)).trans rfl))))))
                have q112 : (gV τ102 20 (a1.toInt.toNat) 2).toInt = (gV σ 20 (a1.toInt.toNat) 2).toInt := congrArg Int32.toInt (show (gV τ102 20 (a1.toInt.toNat) 2) = (gV σ 20 (a1.toInt.toNat) 2) from (show gV τ102 20 (a1.toInt.toNat) 2 = (gV σ 20 (a1.toInt.toNat) 2) from (f104.1 20 (a1.toInt.toNat) (2) (by decide) (by decide)).trans (show gV τ70 20 (a1.toInt.toNat) 2 = (gV σ 20 (a1.toInt.toNat) 2) from (f72.1 20 (a1.toInt.toNat) (2) (by decide) (by decide)).trans (show gV τ39 20 (a1.toInt.toNat) 2 = (gV σ 20 (a1.toInt.toNat) 2) from (f41.1 20 (a1.toInt.toNat) (2) (by decide) (by decide)).trans (show gV τ27 20 (a1.toInt.toNat) 2 = (gV σ 20 (a1.toInt.toNat) 2) from (f29.1 20 (a1.toInt.toNat) (2) (by decide) (by decide)).trans (show gV τ3 20 (a1.toInt.toNat) 2 = (gV σ 20 (a1.toInt.toNat) 2) from (f5.1 20 (a1.toInt.toNat) (2) (by decide) (by decide)).trans rfl))))))
                rcases h108 with ⟨h108_0, h108_1, h108_2, h108_3⟩ | ⟨h108_0, h108_1⟩
                · skip
                  have b113 : IV x105 1 1 := ⟨by omega, by omega⟩
                  show MW p l e _ s m args below meth c _ 8 G 0 0 76 [some (.ref (G.1 0 0)), some (.int a1), some (.int a2), some (.int a3), some (.int a4), some (.int a5), some (.ref (G.1 20 (a1.toInt.toNat))), some (.ref (G.1 20 (a3.toInt.toNat)))] [.int x105] τ102
                  refine m_if_eq (tgt := 91) C dX11_copy_76 (by decide) (fun c114 => ?_) (fun c114 => ?_)
                  · exfalso
                    have q : _ := c114
                    simp only [ti_nle, ti_nlt, ti_le, ti_lt, ti_eq, ti_ne, Classical.not_not, kt_0] at q
                    have q1 := b113; have q2 := kc_0; omega
                  · have f116 : x105.toInt ≠ 0 := by
                      have q : _ := c114
                      simp only [ti_nle, ti_nlt, ti_le, ti_lt, ti_eq, ti_ne, Classical.not_not, kt_0] at q
                      omega
                    refine m_aload C dX11_copy_79 rfl ?_
                    refine m_iload C dX11_copy_81 rfl ?_
                    refine m_iload C dX11_copy_83 rfl ?_
                    refine m_callV (n := 2) (ci := 6) (st := []) C (c_X7_reachesE l G τ102 (j := (a3.toInt.toNat)) (iv_nat b38 (by decide)) (a4) (a5) i103 ) (by decide) (iv_nat b38 (by decide)) rfl rfl rfl q2_27 q2_24 q2_25 q2_26 q1_6 (by decide +kernel) rfl (by decide) (by decide) rfl (Nat.le_of_ble_eq_true rfl) dX11_copy_85 ?_
                    rintro _ τ117 ⟨x120, rfl, i118, f119, b121, h123⟩
                    have g122 : Fr MS_X11_copyE AS_X11_copyE σ τ117 := Fr.call (g107) f119 (by decide)
                    have q124 : (gV τ117 20 (a3.toInt.toNat) 1).toInt = (gV σ 20 (a3.toInt.toNat) 1).toInt := congrArg Int32.toInt (show (gV τ117 20 (a3.toInt.toNat) 1) = (gV σ 20 (a3.toInt.toNat) 1) from (show gV τ117 20 (a3.toInt.toNat) 1 = (gV σ 20 (a3.toInt.toNat) 1) from (f119.1 20 (a3.toInt.toNat) (1) (by decide) (by decide)).trans (show gV τ102 20 (a3.toInt.toNat) 1 = (gV σ 20 (a3.toInt.toNat) 1) from (f104.1 20 (a3.toInt.toNat) (1) (by decide) (by decide)).trans (show gV τ70 20 (a3.toInt.toNat) 1 = (gV σ 20 (a3.toInt.toNat) 1) from (f72.1 20 (a3.toInt.toNat) (1) (by decide) (by decide)).trans (show gV τ39 20 (a3.toInt.toNat) 1 = (gV σ 20 (a3.toInt.toNat) 1) from (f41.1 20 (a3.toInt.toNat) (1) (by decide) (by decide)).trans (show gV τ27 20 (a3.toInt.toNat) 1 = (gV σ 20 (a3.toInt.toNat) 1) from (f29.1 20 (a3.toInt.toNat) (1) (by decide) (by decide)).trans (show gV τ3 20 (a3.toInt.toNat) 1 = (gV σ 20 (a3.toInt.toNat) 1) from (f5.1 20 (a3.toInt.toNat) (1) (by decide) (by decide)).trans rfl)))))))
                    have q125 : (gV τ117 20 (a3.toInt.toNat) 2).toInt = (gV σ 20 (a3.toInt.toNat) 2).toInt := congrArg Int32.toInt (show (gV τ117 20 (a3.toInt.toNat) 2) = (gV σ 20 (a3.toInt.toNat) 2) from (show gV τ117 20 (a3.toInt.toNat) 2 = (gV σ 20 (a3.toInt.toNat) 2) from (f119.1 20 (a3.toInt.toNat) (2) (by decide) (by decide)).trans (show gV τ102 20 (a3.toInt.toNat) 2 = (gV σ 20 (a3.toInt.toNat) 2) from (f104.1 20 (a3.toInt.toNat) (2) (by decide) (by decide)).trans (show gV τ70 20 (a3.toInt.toNat) 2 = (gV σ 20 (a3.toInt.toNat) 2) from (f72.1 20 (a3.toInt.toNat) (2) (by decide) (by decide)).trans (show gV τ39 20 (a3.toInt.toNat) 2 = (gV σ 20 (a3.toInt.toNat) 2) from (f41.1 20 (a3.toInt.toNat) (2) (by decide) (by decide)).trans (show gV τ27 20 (a3.toInt.toNat) 2 = (gV σ 20 (a3.toInt.toNat) 2) from (f29.1 20 (a3.toInt.toNat) (2) (by decide) (by decide)).trans (show gV τ3 20 (a3.toInt.toNat) 2 = (gV σ 20 (a3.toInt.toNat) 2) from (f5.1 20 (a3.toInt.toNat) (2) (by decide) (by decide)).trans rfl)))))))
                    have q126 : (gV τ117 20 (a1.toInt.toNat) 1).toInt = (gV σ 20 (a1.toInt.toNat) 1).toInt := congrArg Int32.toInt (show (gV τ117 20 (a1.toInt.toNat) 1) = (gV σ 20 (a1.toInt.toNat) 1) from (show gV τ117 20 (a1.toInt.toNat) 1 = (gV σ 20 (a1.toInt.toNat) 1) from (f119.1 20 (a1.toInt.toNat) (1) (by decide) (by decide)).trans (show gV τ102 20 (a1.toInt.toNat) 1 = (gV σ 20 (a1.toInt.toNat) 1) from (f104.1 20 (a1.toInt.toNat) (1) (by decide) (by decide)).trans (show gV τ70 20 (a1.toInt.toNat) 1 = (gV σ 20 (a1.toInt.toNat) 1) from (f72.1 20 (a1.toInt.toNat) (1) (by decide) (by decide)).trans (show gV τ39 20 (a1.toInt.toNat) 1 = (gV σ 20 (a1.toInt.toNat) 1) from (f41.1 20 (a1.toInt.toNat) (1) (by decide) (by decide)).trans (show gV τ27 20 (a1.toInt.toNat) 1 = (gV σ 20 (a1.toInt.toNat) 1) from (f29.1 20 (a1.toInt.toNat) (1) (by decide) (by decide)).trans (show gV τ3 20 (a1.toInt.toNat) 1 = (gV σ 20 (a1.toInt.toNat) 1) from (f5.1 20 (a1.toInt.toNat) (1) (by decide) (by decide)).trans rfl)))))))
                    have q127 : (gV τ117 20 (a1.toInt.toNat) 2).toInt = (gV σ 20 (a1.toInt.toNat) 2).toInt := congrArg Int32.toInt (show (gV τ117 20 (a1.toInt.toNat) 2) = (gV σ 20 (a1.toInt.toNat) 2) from (show gV τ117 20 (a1.toInt.toNat) 2 = (gV σ 20 (a1.toInt.toNat) 2) from (f119.1 20 (a1.toInt.toNat) (2) (by decide) (by decide)).trans (show gV τ102 20 (a1.toInt.toNat) 2 = (gV σ 20 (a1.toInt.toNat) 2) from (f104.1 20 (a1.toInt.toNat) (2) (by decide) (by decide)).trans (show gV τ70 20 (a1.toInt.toNat) 2 = (gV σ 20 (a1.toInt.toNat) 2) from (f72.1 20 (a1.toInt.toNat) (2) (by decide) (by decide)).trans (show gV τ39 20 (a1.toInt.toNat) 2 = (gV σ 20 (a1.toInt.toNat) 2) from (f41.1 20 (a1.toInt.toNat) (2) (by decide) (by decide)).trans (show gV τ27 20 (a1.toInt.toNat) 2 = (gV σ 20 (a1.toInt.toNat) 2) from (f29.1 20 (a1.toInt.toNat) (2) (by decide) (by decide)).trans (show gV τ3 20 (a1.toInt.toNat) 2 = (gV σ 20 (a1.toInt.toNat) 2) from (f5.1 20 (a1.toInt.toNat) (2) (by decide) (by decide)).trans rfl)))))))
                    rcases h123 with ⟨h123_0, h123_1, h123_2, h123_3⟩ | ⟨h123_0, h123_1⟩
                    · skip
                      have b128 : IV x120 1 1 := ⟨by omega, by omega⟩
                      show MW p l e _ s m args below meth c _ 8 G 0 0 88 [some (.ref (G.1 0 0)), some (.int a1), some (.int a2), some (.int a3), some (.int a4), some (.int a5), some (.ref (G.1 20 (a1.toInt.toNat))), some (.ref (G.1 20 (a3.toInt.toNat)))] [.int x120] τ117
                      refine m_if_ne (tgt := 97) C dX11_copy_88 (by decide) (fun c129 => ?_) (fun c129 => ?_)
                      · have f130 : x120.toInt ≠ 0 := by
                          have q : _ := c129
                          simp only [ti_nle, ti_nlt, ti_le, ti_lt, ti_eq, ti_ne, Classical.not_not, kt_0] at q
                          omega
                        refine m_aload C dX11_copy_97 rfl ?_
                        refine g_20_0 C (iv_nat b26 (by decide)) q1_173 dX11_copy_99 ?_
                        refine m_iload_n C dX11_copy_102 rfl rfl ?_
                        refine m_aload C dX11_copy_103 rfl ?_
                        refine g_20_0 C (iv_nat b38 (by decide)) q1_173 dX11_copy_105 ?_
                        refine m_iload C dX11_copy_108 rfl ?_
                        refine m_iload C dX11_copy_110 rfl ?_
                        have q131 := (iv_any a5)
                        have q132 := kt_0
                        refine m_copy (t0 := 21) (n0 := 40) (t1 := 21) (n1 := 40) (st := []) C (by decide) (iv_nat b26 (by decide)) rfl (by decide) (iv_nat b38 (by decide)) (fun _ => rfl) ⟨by omega, by omega, by omega, by omega, by omega⟩ q2_28 q2_30 q2_29 q1_8 ⟨by decide, by decide +kernel⟩ dX11_copy_112 ?_
                        refine m_tops (fun τ133 eτ133 => ?_)
                        have i134 : Inv τ133 := eτ133 ▸ Inv.putRow i118 (by decide) (fun _ => rfl)
                        have f135 : Fr MS_X11_copyE AS_X11_copyE σ τ133 := eτ133 ▸ Fr.putRow (g122) (by decide)
                        refine m_aload_n C dX11_copy_115 rfl rfl ?_
                        refine m_iload C dX11_copy_116 rfl ?_
                        refine m_callV (n := 1) (ci := 10) (st := []) C (c_X11_clean l G τ133 (a5) i134 ) (by decide) (by decide) rfl rfl rfl q2_7 q2_4 q2_6 q0_2 q1_1 (by decide +kernel) rfl (by decide) (by decide) rfl (Nat.le_of_ble_eq_true rfl) dX11_copy_118 ?_
                        rintro _ τ136 ⟨x139, rfl, i137, f138, b140, h142⟩
                        have g141 : Fr MS_X11_copyE AS_X11_copyE σ τ136 := Fr.call (f135) f138 (by decide)
                        have u143 : IV (gV τ136 20 (a3.toInt.toNat) 2) 0 40 := i137.1 20 (a3.toInt.toNat) 2
                        have u144 : IV (gV τ136 20 (a1.toInt.toNat) 2) 0 40 := i137.1 20 (a1.toInt.toNat) 2
                        show MW p l e _ s m args below meth c _ 8 G 0 0 121 [some (.ref (G.1 0 0)), some (.int a1), some (.int a2), some (.int a3), some (.int a4), some (.int a5), some (.ref (G.1 20 (a1.toInt.toNat))), some (.ref (G.1 20 (a3.toInt.toNat)))] [.int x139] τ136
                        exact m_iret C hr hlk (by decide) (by decide) dX11_copy_121 ⟨_, rfl, i137, g141, b140, (Or.inr (Or.inr (Or.inr (Or.inr (⟨by omega, by omega, by omega, by omega, by omega, by omega⟩)))))⟩
                      · exfalso
                        have q : _ := c129
                        simp only [ti_nle, ti_nlt, ti_le, ti_lt, ti_eq, ti_ne, Classical.not_not, kt_0] at q
                        have q1 := b128; have q2 := kc_0; omega
                    · skip
                      have b146 : IV x120 0 0 := ⟨by omega, by omega⟩
                      show MW p l e _ s m args below meth c _ 8 G 0 0 88 [some (.ref (G.1 0 0)), some (.int a1), some (.int a2), some (.int a3), some (.int a4), some (.int a5), some (.ref (G.1 20 (a1.toInt.toNat))), some (.ref (G.1 20 (a3.toInt.toNat)))] [.int x120] τ117
                      refine m_if_ne (tgt := 97) C dX11_copy_88 (by decide) (fun c147 => ?_) (fun c147 => ?_)
                      · exfalso
                        have q : _ := c147
                        simp only [ti_nle, ti_nlt, ti_le, ti_lt, ti_eq, ti_ne, Classical.not_not, kt_0] at q
                        have q1 := b146; have q2 := kc_0; omega
                      · have f149 : x120.toInt = 0 := by
                          have q : _ := c147
                          simp only [ti_nle, ti_nlt, ti_le, ti_lt, ti_eq, ti_ne, Classical.not_not, kt_0] at q
                          omega
                        refine m_aload_n C dX11_copy_91 rfl rfl ?_
                        refine m_iconst (v := 2) C dX11_copy_92 (by decide) ?_
                        refine m_callV (n := 1) (ci := 10) (st := []) C (c_X11_found l G τ117 (2) i118 (iv_wk kc_2 (by decide))) (by decide) (by decide) rfl rfl rfl q1_238 q1_235 q1_237 q0_1 q1_1 (by decide +kernel) rfl (by decide) (by decide) rfl (Nat.le_of_ble_eq_true rfl) dX11_copy_93 ?_
                        rintro _ τ150 ⟨x153, rfl, i151, f152, b154, h156⟩
                        have g155 : Fr MS_X11_copyE AS_X11_copyE σ τ150 := Fr.call (g122) f152 (by decide)
                        have q157 : (gV τ150 20 (a3.toInt.toNat) 1).toInt = (gV σ 20 (a3.toInt.toNat) 1).toInt := congrArg Int32.toInt (show (gV τ150 20 (a3.toInt.toNat) 1) = (gV σ 20 (a3.toInt.toNat) 1) from (show gV τ150 20 (a3.toInt.toNat) 1 = (gV σ 20 (a3.toInt.toNat) 1) from (f152.1 20 (a3.toInt.toNat) (1) (by decide) (by decide)).trans (show gV τ117 20 (a3.toInt.toNat) 1 = (gV σ 20 (a3.toInt.toNat) 1) from (f119.1 20 (a3.toInt.toNat) (1) (by decide) (by decide)).trans (show gV τ102 20 (a3.toInt.toNat) 1 = (gV σ 20 (a3.toInt.toNat) 1) from (f104.1 20 (a3.toInt.toNat) (1) (by decide) (by decide)).trans (show gV τ70 20 (a3.toInt.toNat) 1 = (gV σ 20 (a3.toInt.toNat) 1) from (f72.1 20 (a3.toInt.toNat) (1) (by decide) (by decide)).trans (show gV τ39 20 (a3.toInt.toNat) 1 = (gV σ 20 (a3.toInt.toNat) 1) from (f41.1 20 (a3.toInt.toNat) (1) (by decide) (by decide)).trans (show gV τ27 20 (a3.toInt.toNat) 1 = (gV σ 20 (a3.toInt.toNat) 1) from (f29.1 20 (a3.toInt.toNat) (1) (by decide) (by decide)).trans (show gV τ3 20 (a3.toInt.toNat) 1 = (gV σ 20 (a3.toInt.toNat) 1) from (f5.1 20 (a3.toInt.toNat) (1) (by decide) (by decide)).trans rfl))))))))
                        have q158 : (gV τ150 20 (a3.toInt.toNat) 2).toInt = (gV σ 20 (a3.toInt.toNat) 2).toInt := congrArg Int32.toInt (show (gV τ150 20 (a3.toInt.toNat) 2) = (gV σ 20 (a3.toInt.toNat) 2) from (show gV τ150 20 (a3.toInt.toNat) 2 = (gV σ 20 (a3.toInt.toNat) 2) from (f152.1 20 (a3.toInt.toNat) (2) (by decide) (by decide)).trans (show gV τ117 20 (a3.toInt.toNat) 2 = (gV σ 20 (a3.toInt.toNat) 2) from (f119.1 20 (a3.toInt.toNat) (2) (by decide) (by decide)).trans (show gV τ102 20 (a3.toInt.toNat) 2 = (gV σ 20 (a3.toInt.toNat) 2) from (f104.1 20 (a3.toInt.toNat) (2) (by decide) (by decide)).trans (show gV τ70 20 (a3.toInt.toNat) 2 = (gV σ 20 (a3.toInt.toNat) 2) from (f72.1 20 (a3.toInt.toNat) (2) (by decide) (by decide)).trans (show gV τ39 20 (a3.toInt.toNat) 2 = (gV σ 20 (a3.toInt.toNat) 2) from (f41.1 20 (a3.toInt.toNat) (2) (by decide) (by decide)).trans (show gV τ27 20 (a3.toInt.toNat) 2 = (gV σ 20 (a3.toInt.toNat) 2) from (f29.1 20 (a3.toInt.toNat) (2) (by decide) (by decide)).trans (show gV τ3 20 (a3.toInt.toNat) 2 = (gV σ 20 (a3.toInt.toNat) 2) from (f5.1 20 (a3.toInt.toNat) (2) (by decide) (by decide)).trans rfl))))))))
                        have q159 : (gV τ150 20 (a1.toInt.toNat) 1).toInt = (gV σ 20 (a1.toInt.toNat) 1).toInt := congrArg Int32.toInt (show (gV τ150 20 (a1.toInt.toNat) 1) = (gV σ 20 (a1.toInt.toNat) 1) from (show gV τ150 20 (a1.toInt.toNat) 1 = (gV σ 20 (a1.toInt.toNat) 1) from (f152.1 20 (a1.toInt.toNat) (1) (by decide) (by decide)).trans (show gV τ117 20 (a1.toInt.toNat) 1 = (gV σ 20 (a1.toInt.toNat) 1) from (f119.1 20 (a1.toInt.toNat) (1) (by decide) (by decide)).trans (show gV τ102 20 (a1.toInt.toNat) 1 = (gV σ 20 (a1.toInt.toNat) 1) from (f104.1 20 (a1.toInt.toNat) (1) (by decide) (by decide)).trans (show gV τ70 20 (a1.toInt.toNat) 1 = (gV σ 20 (a1.toInt.toNat) 1) from (f72.1 20 (a1.toInt.toNat) (1) (by decide) (by decide)).trans (show gV τ39 20 (a1.toInt.toNat) 1 = (gV σ 20 (a1.toInt.toNat) 1) from (f41.1 20 (a1.toInt.toNat) (1) (by decide) (by decide)).trans (show gV τ27 20 (a1.toInt.toNat) 1 = (gV σ 20 (a1.toInt.toNat) 1) from (f29.1 20 (a1.toInt.toNat) (1) (by decide) (by decide)).trans (show gV τ3 20 (a1.toInt.toNat) 1 = (gV σ 20 (a1.toInt.toNat) 1) from (f5.1 20 (a1.toInt.toNat) (1) (by decide) (by decide)).trans rfl))))))))
                        have q160 : (gV τ150 20 (a1.toInt.toNat) 2).toInt = (gV σ 20 (a1.toInt.toNat) 2).toInt := congrArg Int32.toInt (show (gV τ150 20 (a1.toInt.toNat) 2) = (gV σ 20 (a1.toInt.toNat) 2) from (show gV τ150 20 (a1.toInt.toNat) 2 = (gV σ 20 (a1.toInt.toNat) 2) from (f152.1 20 (a1.toInt.toNat) (2) (by decide) (by decide)).trans (show gV τ117 20 (a1.toInt.toNat) 2 = (gV σ 20 (a1.toInt.toNat) 2) from (f119.1 20 (a1.toInt.toNat) (2) (by decide) (by decide)).trans (show gV τ102 20 (a1.toInt.toNat) 2 = (gV σ 20 (a1.toInt.toNat) 2) from (f104.1 20 (a1.toInt.toNat) (2) (by decide) (by decide)).trans (show gV τ70 20 (a1.toInt.toNat) 2 = (gV σ 20 (a1.toInt.toNat) 2) from (f72.1 20 (a1.toInt.toNat) (2) (by decide) (by decide)).trans (show gV τ39 20 (a1.toInt.toNat) 2 = (gV σ 20 (a1.toInt.toNat) 2) from (f41.1 20 (a1.toInt.toNat) (2) (by decide) (by decide)).trans (show gV τ27 20 (a1.toInt.toNat) 2 = (gV σ 20 (a1.toInt.toNat) 2) from (f29.1 20 (a1.toInt.toNat) (2) (by decide) (by decide)).trans (show gV τ3 20 (a1.toInt.toNat) 2 = (gV σ 20 (a1.toInt.toNat) 2) from (f5.1 20 (a1.toInt.toNat) (2) (by decide) (by decide)).trans rfl))))))))
                        have q161 := kt_2
                        show MW p l e _ s m args below meth c _ 8 G 0 0 96 [some (.ref (G.1 0 0)), some (.int a1), some (.int a2), some (.int a3), some (.int a4), some (.int a5), some (.ref (G.1 20 (a1.toInt.toNat))), some (.ref (G.1 20 (a3.toInt.toNat)))] [.int x153] τ150
                        exact m_iret C hr hlk (by decide) (by decide) dX11_copy_96 ⟨_, rfl, i151, g155, (iv_wk b154 (by decide)), (Or.inr (Or.inr (Or.inr (Or.inl ⟨by omega, by omega, by omega, by omega, by omega, by omega⟩))))⟩
                · skip
                  have b162 : IV x105 0 0 := ⟨by omega, by omega⟩
                  show MW p l e _ s m args below meth c _ 8 G 0 0 76 [some (.ref (G.1 0 0)), some (.int a1), some (.int a2), some (.int a3), some (.int a4), some (.int a5), some (.ref (G.1 20 (a1.toInt.toNat))), some (.ref (G.1 20 (a3.toInt.toNat)))] [.int x105] τ102
                  refine m_if_eq (tgt := 91) C dX11_copy_76 (by decide) (fun c163 => ?_) (fun c163 => ?_)
                  · have f164 : x105.toInt = 0 := by
                      have q : _ := c163
                      simp only [ti_nle, ti_nlt, ti_le, ti_lt, ti_eq, ti_ne, Classical.not_not, kt_0] at q
                      omega
                    refine m_aload_n C dX11_copy_91 rfl rfl ?_
                    refine m_iconst (v := 2) C dX11_copy_92 (by decide) ?_
                    refine m_callV (n := 1) (ci := 10) (st := []) C (c_X11_found l G τ102 (2) i103 (iv_wk kc_2 (by decide))) (by decide) (by decide) rfl rfl rfl q1_238 q1_235 q1_237 q0_1 q1_1 (by decide +kernel) rfl (by decide) (by decide) rfl (Nat.le_of_ble_eq_true rfl) dX11_copy_93 ?_
                    rintro _ τ165 ⟨x168, rfl, i166, f167, b169, h171⟩
                    have g170 : Fr MS_X11_copyE AS_X11_copyE σ τ165 := Fr.call (g107) f167 (by decide)
                    have q172 : (gV τ165 20 (a3.toInt.toNat) 1).toInt = (gV σ 20 (a3.toInt.toNat) 1).toInt := congrArg Int32.toInt (show (gV τ165 20 (a3.toInt.toNat) 1) = (gV σ 20 (a3.toInt.toNat) 1) from (show gV τ165 20 (a3.toInt.toNat) 1 = (gV σ 20 (a3.toInt.toNat) 1) from (f167.1 20 (a3.toInt.toNat) (1) (by decide) (by decide)).trans (show gV τ102 20 (a3.toInt.toNat) 1 = (gV σ 20 (a3.toInt.toNat) 1) from (f104.1 20 (a3.toInt.toNat) (1) (by decide) (by decide)).trans (show gV τ70 20 (a3.toInt.toNat) 1 = (gV σ 20 (a3.toInt.toNat) 1) from (f72.1 20 (a3.toInt.toNat) (1) (by decide) (by decide)).trans (show gV τ39 20 (a3.toInt.toNat) 1 = (gV σ 20 (a3.toInt.toNat) 1) from (f41.1 20 (a3.toInt.toNat) (1) (by decide) (by decide)).trans (show gV τ27 20 (a3.toInt.toNat) 1 = (gV σ 20 (a3.toInt.toNat) 1) from (f29.1 20 (a3.toInt.toNat) (1) (by decide) (by decide)).trans (show gV τ3 20 (a3.toInt.toNat) 1 = (gV σ 20 (a3.toInt.toNat) 1) from (f5.1 20 (a3.toInt.toNat) (1) (by decide) (by decide)).trans rfl)))))))
                    have q173 : (gV τ165 20 (a3.toInt.toNat) 2).toInt = (gV σ 20 (a3.toInt.toNat) 2).toInt := congrArg Int32.toInt (show (gV τ165 20 (a3.toInt.toNat) 2) = (gV σ 20 (a3.toInt.toNat) 2) from (show gV τ165 20 (a3.toInt.toNat) 2 = (gV σ 20 (a3.toInt.toNat) 2) from (f167.1 20 (a3.toInt.toNat) (2) (by decide) (by decide)).trans (show gV τ102 20 (a3.toInt.toNat) 2 = (gV σ 20 (a3.toInt.toNat) 2) from (f104.1 20 (a3.toInt.toNat) (2) (by decide) (by decide)).trans (show gV τ70 20 (a3.toInt.toNat) 2 = (gV σ 20 (a3.toInt.toNat) 2) from (f72.1 20 (a3.toInt.toNat) (2) (by decide) (by decide)).trans (show gV τ39 20 (a3.toInt.toNat) 2 = (gV σ 20 (a3.toInt.toNat) 2) from (f41.1 20 (a3.toInt.toNat) (2) (by decide) (by decide)).trans (show gV τ27 20 (a3.toInt.toNat) 2 = (gV σ 20 (a3.toInt.toNat) 2) from (f29.1 20 (a3.toInt.toNat) (2) (by decide) (by decide)).trans (show gV τ3 20 (a3.toInt.toNat) 2 = (gV σ 20 (a3.toInt.toNat) 2) from (f5.1 20 (a3.toInt.toNat) (2) (by decide) (by decide)).trans rfl)))))))
                    have q174 : (gV τ165 20 (a1.toInt.toNat) 1).toInt = (gV σ 20 (a1.toInt.toNat) 1).toInt := congrArg Int32.toInt (show (gV τ165 20 (a1.toInt.toNat) 1) = (gV σ 20 (a1.toInt.toNat) 1) from (show gV τ165 20 (a1.toInt.toNat) 1 = (gV σ 20 (a1.toInt.toNat) 1) from (f167.1 20 (a1.toInt.toNat) (1) (by decide) (by decide)).trans (show gV τ102 20 (a1.toInt.toNat) 1 = (gV σ 20 (a1.toInt.toNat) 1) from (f104.1 20 (a1.toInt.toNat) (1) (by decide) (by decide)).trans (show gV τ70 20 (a1.toInt.toNat) 1 = (gV σ 20 (a1.toInt.toNat) 1) from (f72.1 20 (a1.toInt.toNat) (1) (by decide) (by decide)).trans (show gV τ39 20 (a1.toInt.toNat) 1 = (gV σ 20 (a1.toInt.toNat) 1) from (f41.1 20 (a1.toInt.toNat) (1) (by decide) (by decide)).trans (show gV τ27 20 (a1.toInt.toNat) 1 = (gV σ 20 (a1.toInt.toNat) 1) from (f29.1 20 (a1.toInt.toNat) (1) (by decide) (by decide)).trans (show gV τ3 20 (a1.toInt.toNat) 1 = (gV σ 20 (a1.toInt.toNat) 1) from (f5.1 20 (a1.toInt.toNat) (1) (by decide) (by decide)).trans rfl)))))))
                    have q175 : (gV τ165 20 (a1.toInt.toNat) 2).toInt = (gV σ 20 (a1.toInt.toNat) 2).toInt := congrArg Int32.toInt (show (gV τ165 20 (a1.toInt.toNat) 2) = (gV σ 20 (a1.toInt.toNat) 2) from (show gV τ165 20 (a1.toInt.toNat) 2 = (gV σ 20 (a1.toInt.toNat) 2) from (f167.1 20 (a1.toInt.toNat) (2) (by decide) (by decide)).trans (show gV τ102 20 (a1.toInt.toNat) 2 = (gV σ 20 (a1.toInt.toNat) 2) from (f104.1 20 (a1.toInt.toNat) (2) (by decide) (by decide)).trans (show gV τ70 20 (a1.toInt.toNat) 2 = (gV σ 20 (a1.toInt.toNat) 2) from (f72.1 20 (a1.toInt.toNat) (2) (by decide) (by decide)).trans (show gV τ39 20 (a1.toInt.toNat) 2 = (gV σ 20 (a1.toInt.toNat) 2) from (f41.1 20 (a1.toInt.toNat) (2) (by decide) (by decide)).trans (show gV τ27 20 (a1.toInt.toNat) 2 = (gV σ 20 (a1.toInt.toNat) 2) from (f29.1 20 (a1.toInt.toNat) (2) (by decide) (by decide)).trans (show gV τ3 20 (a1.toInt.toNat) 2 = (gV σ 20 (a1.toInt.toNat) 2) from (f5.1 20 (a1.toInt.toNat) (2) (by decide) (by decide)).trans rfl)))))))
                    have q176 := kt_2
                    show MW p l e _ s m args below meth c _ 8 G 0 0 96 [some (.ref (G.1 0 0)), some (.int a1), some (.int a2), some (.int a3), some (.int a4), some (.int a5), some (.ref (G.1 20 (a1.toInt.toNat))), some (.ref (G.1 20 (a3.toInt.toNat)))] [.int x168] τ165
                    exact m_iret C hr hlk (by decide) (by decide) dX11_copy_96 ⟨_, rfl, i166, g170, (iv_wk b169 (by decide)), (Or.inr (Or.inr (Or.inr (Or.inl ⟨by omega, by omega, by omega, by omega, by omega, by omega⟩))))⟩
                  · exfalso
                    have q : _ := c163
                    simp only [ti_nle, ti_nlt, ti_le, ti_lt, ti_eq, ti_ne, Classical.not_not, kt_0] at q
                    have q1 := b162; have q2 := kc_0; omega
              · have f178 : (gV σ 20 (a1.toInt.toNat) 1).toInt ≠ (gV σ 20 (a3.toInt.toNat) 1).toInt := by
                  have q : _ := c100
                  simp only [ti_nle, ti_nlt, ti_le, ti_lt, ti_eq, ti_ne, Classical.not_not] at q
                  omega
                refine m_aload_n C dX11_copy_62 rfl rfl ?_
                refine m_iconst (v := 5) C dX11_copy_63 (by decide) ?_
                refine m_callV (n := 1) (ci := 10) (st := []) C (c_X11_found l G τ70 (5) i71 (iv_wk kc_5 (by decide))) (by decide) (by decide) rfl rfl rfl q1_238 q1_235 q1_237 q0_1 q1_1 (by decide +kernel) rfl (by decide) (by decide) rfl (Nat.le_of_ble_eq_true rfl) dX11_copy_64 ?_
                rintro _ τ179 ⟨x182, rfl, i180, f181, b183, h185⟩
                have g184 : Fr MS_X11_copyE AS_X11_copyE σ τ179 := Fr.call (g75) f181 (by decide)
                have q186 : (gV τ179 20 (a3.toInt.toNat) 1).toInt = (gV σ 20 (a3.toInt.toNat) 1).toInt := congrArg Int32.toInt (show (gV τ179 20 (a3.toInt.toNat) 1) = (gV σ 20 (a3.toInt.toNat) 1) from (show gV τ179 20 (a3.toInt.toNat) 1 = (gV σ 20 (a3.toInt.toNat) 1) from (f181.1 20 (a3.toInt.toNat) (1) (by decide) (by decide)).trans (show gV τ70 20 (a3.toInt.toNat) 1 = (gV σ 20 (a3.toInt.toNat) 1) from (f72.1 20 (a3.toInt.toNat) (1) (by decide) (by decide)).trans (show gV τ39 20 (a3.toInt.toNat) 1 = (gV σ 20 (a3.toInt.toNat) 1) from (f41.1 20 (a3.toInt.toNat) (1) (by decide) (by decide)).trans (show gV τ27 20 (a3.toInt.toNat) 1 = (gV σ 20 (a3.toInt.toNat) 1) from (f29.1 20 (a3.toInt.toNat) (1) (by decide) (by decide)).trans (show gV τ3 20 (a3.toInt.toNat) 1 = (gV σ 20 (a3.toInt.toNat) 1) from (f5.1 20 (a3.toInt.toNat) (1) (by decide) (by decide)).trans rfl))))))
                have q187 : (gV τ179 20 (a3.toInt.toNat) 2).toInt = (gV σ 20 (a3.toInt.toNat) 2).toInt := congrArg Int32.toInt (show (gV τ179 20 (a3.toInt.toNat) 2) = (gV σ 20 (a3.toInt.toNat) 2) from (show gV τ179 20 (a3.toInt.toNat) 2 = (gV σ 20 (a3.toInt.toNat) 2) from (f181.1 20 (a3.toInt.toNat) (2) (by decide) (by decide)).trans (show gV τ70 20 (a3.toInt.toNat) 2 = (gV σ 20 (a3.toInt.toNat) 2) from (f72.1 20 (a3.toInt.toNat) (2) (by decide) (by decide)).trans (show gV τ39 20 (a3.toInt.toNat) 2 = (gV σ 20 (a3.toInt.toNat) 2) from (f41.1 20 (a3.toInt.toNat) (2) (by decide) (by decide)).trans (show gV τ27 20 (a3.toInt.toNat) 2 = (gV σ 20 (a3.toInt.toNat) 2) from (f29.1 20 (a3.toInt.toNat) (2) (by decide) (by decide)).trans (show gV τ3 20 (a3.toInt.toNat) 2 = (gV σ 20 (a3.toInt.toNat) 2) from (f5.1 20 (a3.toInt.toNat) (2) (by decide) (by decide)).trans rfl))))))
                have q188 : (gV τ179 20 (a1.toInt.toNat) 1).toInt = (gV σ 20 (a1.toInt.toNat) 1).toInt := congrArg Int32.toInt (show (gV τ179 20 (a1.toInt.toNat) 1) = (gV σ 20 (a1.toInt.toNat) 1) from (show gV τ179 20 (a1.toInt.toNat) 1 = (gV σ 20 (a1.toInt.toNat) 1) from (f181.1 20 (a1.toInt.toNat) (1) (by decide) (by decide)).trans (show gV τ70 20 (a1.toInt.toNat) 1 = (gV σ 20 (a1.toInt.toNat) 1) from (f72.1 20 (a1.toInt.toNat) (1) (by decide) (by decide)).trans (show gV τ39 20 (a1.toInt.toNat) 1 = (gV σ 20 (a1.toInt.toNat) 1) from (f41.1 20 (a1.toInt.toNat) (1) (by decide) (by decide)).trans (show gV τ27 20 (a1.toInt.toNat) 1 = (gV σ 20 (a1.toInt.toNat) 1) from (f29.1 20 (a1.toInt.toNat) (1) (by decide) (by decide)).trans (show gV τ3 20 (a1.toInt.toNat) 1 = (gV σ 20 (a1.toInt.toNat) 1) from (f5.1 20 (a1.toInt.toNat) (1) (by decide) (by decide)).trans rfl))))))
                have q189 : (gV τ179 20 (a1.toInt.toNat) 2).toInt = (gV σ 20 (a1.toInt.toNat) 2).toInt := congrArg Int32.toInt (show (gV τ179 20 (a1.toInt.toNat) 2) = (gV σ 20 (a1.toInt.toNat) 2) from (show gV τ179 20 (a1.toInt.toNat) 2 = (gV σ 20 (a1.toInt.toNat) 2) from (f181.1 20 (a1.toInt.toNat) (2) (by decide) (by decide)).trans (show gV τ70 20 (a1.toInt.toNat) 2 = (gV σ 20 (a1.toInt.toNat) 2) from (f72.1 20 (a1.toInt.toNat) (2) (by decide) (by decide)).trans (show gV τ39 20 (a1.toInt.toNat) 2 = (gV σ 20 (a1.toInt.toNat) 2) from (f41.1 20 (a1.toInt.toNat) (2) (by decide) (by decide)).trans (show gV τ27 20 (a1.toInt.toNat) 2 = (gV σ 20 (a1.toInt.toNat) 2) from (f29.1 20 (a1.toInt.toNat) (2) (by decide) (by decide)).trans (show gV τ3 20 (a1.toInt.toNat) 2 = (gV σ 20 (a1.toInt.toNat) 2) from (f5.1 20 (a1.toInt.toNat) (2) (by decide) (by decide)).trans rfl))))))
                have q190 := kt_5
                show MW p l e _ s m args below meth c _ 8 G 0 0 67 [some (.ref (G.1 0 0)), some (.int a1), some (.int a2), some (.int a3), some (.int a4), some (.int a5), some (.ref (G.1 20 (a1.toInt.toNat))), some (.ref (G.1 20 (a3.toInt.toNat)))] [.int x182] τ179
                exact m_iret C hr hlk (by decide) (by decide) dX11_copy_67 ⟨_, rfl, i180, g184, (iv_wk b183 (by decide)), (Or.inr (Or.inr (Or.inl ⟨by omega, by omega, by omega, by omega, by omega⟩)))⟩
            · exfalso
              have q : _ := c98
              simp only [ti_nle, ti_nlt, ti_le, ti_lt, ti_eq, ti_ne, Classical.not_not, kt_0] at q
              have q1 := b97; have q2 := kc_0; omega

abbrev MS_X12_copyE : List (Nat × Nat) := [(22, 8)]
abbrev AS_X12_copyE : List Nat := [25, 29]
set_option maxHeartbeats 4000000 in
set_option maxRecDepth 100000 in
theorem c_X12_copyE (l : Launch) (G : Gt) (σ : Sg) (a1 : Int32) (a2 : Int32) (a3 : Int32) (a4 : Int32) (a5 : Int32) (hI : Inv σ) : Mc l G yX12_copy cX12_copy 7 (some .int) 2 45 0 0 [.ref (G.1 22 0), .int a1, .int a2, .int a3, .int a4, .int a5] σ (PI fun r τ => Inv τ ∧ Fr MS_X12_copyE AS_X12_copyE σ τ ∧ IV r (-2147483648) 2147483647 ∧ (((a1.toInt < 0 ∨ 7 < a1.toInt ∨ a3.toInt < 0 ∨ 7 < a3.toInt) ∧ r.toInt = -1000001) ∨ ((0 ≤ a1.toInt ∧ a1.toInt ≤ 7 ∧ 0 ≤ a3.toInt ∧ a3.toInt ≤ 7) ∧ ((gV σ 26 0 (a1.toInt.toNat)).toInt < 0 ∨ (gV σ 26 0 (a3.toInt.toNat)).toInt < 0) ∧ r.toInt = -1000011) ∨ ((0 ≤ a1.toInt ∧ a1.toInt ≤ 7 ∧ 0 ≤ a3.toInt ∧ a3.toInt ≤ 7) ∧ ¬ ((gV σ 26 0 (a1.toInt.toNat)).toInt < 0) ∧ ¬ ((gV σ 26 0 (a3.toInt.toNat)).toInt < 0) ∧ (gV σ 26 0 (a1.toInt.toNat)).toInt ≠ (gV σ 26 0 (a3.toInt.toNat)).toInt ∧ r.toInt = -1000015) ∨ ((0 ≤ a1.toInt ∧ a1.toInt ≤ 7 ∧ 0 ≤ a3.toInt ∧ a3.toInt ≤ 7) ∧ ¬ ((gV σ 26 0 (a1.toInt.toNat)).toInt < 0) ∧ ¬ ((gV σ 26 0 (a3.toInt.toNat)).toInt < 0) ∧ (gV σ 26 0 (a1.toInt.toNat)).toInt = (gV σ 26 0 (a3.toInt.toNat)).toInt ∧ ¬ (0 ≤ a2.toInt ∧ 0 ≤ a4.toInt ∧ 0 ≤ a5.toInt ∧ a2.toInt + a5.toInt ≤ (gV σ 27 0 (a1.toInt.toNat)).toInt ∧ a4.toInt + a5.toInt ≤ (gV σ 27 0 (a3.toInt.toNat)).toInt) ∧ r.toInt = -1000012) ∨ ((0 ≤ a1.toInt ∧ a1.toInt ≤ 7 ∧ 0 ≤ a3.toInt ∧ a3.toInt ≤ 7) ∧ ¬ ((gV σ 26 0 (a1.toInt.toNat)).toInt < 0) ∧ ¬ ((gV σ 26 0 (a3.toInt.toNat)).toInt < 0) ∧ (gV σ 26 0 (a1.toInt.toNat)).toInt = (gV σ 26 0 (a3.toInt.toNat)).toInt ∧ (0 ≤ a2.toInt ∧ 0 ≤ a4.toInt ∧ 0 ≤ a5.toInt ∧ a2.toInt + a5.toInt ≤ (gV σ 27 0 (a1.toInt.toNat)).toInt ∧ a4.toInt + a5.toInt ≤ (gV σ 27 0 (a3.toInt.toNat)).toInt) ∧ r.toInt = a5.toInt))) := by
  refine Mc.of (L0 := [some (.ref (G.1 22 0)), some (.int a1), some (.int a2), some (.int a3), some (.int a4), some (.int a5), none]) (by decide) (Nat.le_of_ble_eq_true rfl) rfl ?_
  intro p e s m args below meth c C hr hlk
  have C : Cx p s m args c cX12_copy 7 "LeanTowerModel" := C
  have k0 : (0 : Int32).toInt = 0 := by decide
  have k1 : (1 : Int32).toInt = 1 := by decide
  have J157 : ∀ (n : Nat) (τ : Sg) (y6 : Int32), Inv τ → Fr MS_X12_copyE AS_X12_copyE σ τ → IV a1 0 7 → IV a2 0 40 → IV a3 0 7 → IV a4 0 40 → IV a5 0 40 → IV y6 0 40 → (a2.toInt + a5.toInt ≤ 40 ∧ a4.toInt + a5.toInt ≤ 40) → (((0 ≤ a1.toInt ∧ a1.toInt ≤ 7 ∧ 0 ≤ a3.toInt ∧ a3.toInt ≤ 7) ∧ 0 ≤ (gV σ 26 0 (a1.toInt.toNat)).toInt ∧ 0 ≤ (gV σ 26 0 (a3.toInt.toNat)).toInt ∧ (gV σ 26 0 (a1.toInt.toNat)).toInt = (gV σ 26 0 (a3.toInt.toNat)).toInt ∧ (0 ≤ a2.toInt ∧ 0 ≤ a4.toInt ∧ 0 ≤ a5.toInt ∧ a2.toInt + a5.toInt ≤ (gV σ 27 0 (a1.toInt.toNat)).toInt ∧ a4.toInt + a5.toInt ≤ (gV σ 27 0 (a3.toInt.toNat)).toInt))) → (40 - y6.toInt).toNat < n → MW p l e { frames := 2, cells := 0, slots := 0, locals := 45 } s m args below meth c (MQ below (QP G (PI fun r τ => Inv τ ∧ Fr MS_X12_copyE AS_X12_copyE σ τ ∧ IV r (-2147483648) 2147483647 ∧ (((a1.toInt < 0 ∨ 7 < a1.toInt ∨ a3.toInt < 0 ∨ 7 < a3.toInt) ∧ r.toInt = -1000001) ∨ ((0 ≤ a1.toInt ∧ a1.toInt ≤ 7 ∧ 0 ≤ a3.toInt ∧ a3.toInt ≤ 7) ∧ ((gV σ 26 0 (a1.toInt.toNat)).toInt < 0 ∨ (gV σ 26 0 (a3.toInt.toNat)).toInt < 0) ∧ r.toInt = -1000011) ∨ ((0 ≤ a1.toInt ∧ a1.toInt ≤ 7 ∧ 0 ≤ a3.toInt ∧ a3.toInt ≤ 7) ∧ ¬ ((gV σ 26 0 (a1.toInt.toNat)).toInt < 0) ∧ ¬ ((gV σ 26 0 (a3.toInt.toNat)).toInt < 0) ∧ (gV σ 26 0 (a1.toInt.toNat)).toInt ≠ (gV σ 26 0 (a3.toInt.toNat)).toInt ∧ r.toInt = -1000015) ∨ ((0 ≤ a1.toInt ∧ a1.toInt ≤ 7 ∧ 0 ≤ a3.toInt ∧ a3.toInt ≤ 7) ∧ ¬ ((gV σ 26 0 (a1.toInt.toNat)).toInt < 0) ∧ ¬ ((gV σ 26 0 (a3.toInt.toNat)).toInt < 0) ∧ (gV σ 26 0 (a1.toInt.toNat)).toInt = (gV σ 26 0 (a3.toInt.toNat)).toInt ∧ ¬ (0 ≤ a2.toInt ∧ 0 ≤ a4.toInt ∧ 0 ≤ a5.toInt ∧ a2.toInt + a5.toInt ≤ (gV σ 27 0 (a1.toInt.toNat)).toInt ∧ a4.toInt + a5.toInt ≤ (gV σ 27 0 (a3.toInt.toNat)).toInt) ∧ r.toInt = -1000012) ∨ ((0 ≤ a1.toInt ∧ a1.toInt ≤ 7 ∧ 0 ≤ a3.toInt ∧ a3.toInt ≤ 7) ∧ ¬ ((gV σ 26 0 (a1.toInt.toNat)).toInt < 0) ∧ ¬ ((gV σ 26 0 (a3.toInt.toNat)).toInt < 0) ∧ (gV σ 26 0 (a1.toInt.toNat)).toInt = (gV σ 26 0 (a3.toInt.toNat)).toInt ∧ (0 ≤ a2.toInt ∧ 0 ≤ a4.toInt ∧ 0 ≤ a5.toInt ∧ a2.toInt + a5.toInt ≤ (gV σ 27 0 (a1.toInt.toNat)).toInt ∧ a4.toInt + a5.toInt ≤ (gV σ 27 0 (a3.toInt.toNat)).toInt) ∧ r.toInt = a5.toInt)))) args s 0 0 (aG G)) 7 G 0 0 157 [some (.ref (G.1 22 0)), none, none, some (.int a3), some (.int a4), some (.int a5), some (.int y6)] [] τ := by
    intro n
    induction n with
    | zero => intro τ y6 iτ fτ b_a1 b_a2 b_a3 b_a4 b_a5 b_y6 n1 n2 hm; exact absurd hm (Nat.not_lt_zero _)
    | succ n ih157 =>
      intro τ y6 iτ fτ b_a1 b_a2 b_a3 b_a4 b_a5 b_y6 n1 n2 hm157
      have u3 : IV (gV τ 27 0 (a3.toInt.toNat)) 0 40 := iτ.1 27 0 (a3.toInt.toNat)
      have u4 : IV (gV τ 27 0 (a1.toInt.toNat)) 0 40 := iτ.1 27 0 (a1.toInt.toNat)
      refine m_iload C dX12_copy_157 rfl ?_
      refine m_iload C dX12_copy_159 rfl ?_
      refine m_icmp_ge (tgt := 192) C dX12_copy_161 (by decide) (fun c5 => ?_) (fun c5 => ?_)
      · have f6 : a5.toInt ≤ y6.toInt := by
          have q : _ := c5
          simp only [ti_nle, ti_nlt, ti_le, ti_lt, ti_eq, ti_ne, Classical.not_not] at q
          omega
        refine m_aload_n C dX12_copy_192 rfl rfl ?_
        refine m_iload C dX12_copy_193 rfl ?_
        refine m_callV (n := 1) (ci := 11) (st := []) C (c_X12_fine l G τ (a5) iτ ) (by decide) (by decide) rfl rfl rfl q4_201 q4_198 q4_200 q0_27 q1_7 (by decide +kernel) rfl (by decide) (by decide) rfl (Nat.le_of_ble_eq_true rfl) dX12_copy_195 ?_
        rintro _ τ7 ⟨x10, rfl, i8, f9, b11, h13⟩
        have g12 : Fr MS_X12_copyE AS_X12_copyE σ τ7 := Fr.call (fτ) f9 (by decide)
        have q14 : (gV τ7 26 0 (a3.toInt.toNat)).toInt = (gV τ 26 0 (a3.toInt.toNat)).toInt := congrArg Int32.toInt (show (gV τ7 26 0 (a3.toInt.toNat)) = (gV τ 26 0 (a3.toInt.toNat)) from (show gV τ7 26 0 (a3.toInt.toNat) = (gV τ 26 0 (a3.toInt.toNat)) from (f9.1 26 0 ((a3.toInt.toNat)) (by simp) (by decide)).trans rfl))
        have q15 : (gV τ7 27 0 (a3.toInt.toNat)).toInt = (gV τ 27 0 (a3.toInt.toNat)).toInt := congrArg Int32.toInt (show (gV τ7 27 0 (a3.toInt.toNat)) = (gV τ 27 0 (a3.toInt.toNat)) from (show gV τ7 27 0 (a3.toInt.toNat) = (gV τ 27 0 (a3.toInt.toNat)) from (f9.1 27 0 ((a3.toInt.toNat)) (by simp) (by decide)).trans rfl))
        have q16 : (gV τ7 26 0 (a1.toInt.toNat)).toInt = (gV τ 26 0 (a1.toInt.toNat)).toInt := congrArg Int32.toInt (show (gV τ7 26 0 (a1.toInt.toNat)) = (gV τ 26 0 (a1.toInt.toNat)) from (show gV τ7 26 0 (a1.toInt.toNat) = (gV τ 26 0 (a1.toInt.toNat)) from (f9.1 26 0 ((a1.toInt.toNat)) (by simp) (by decide)).trans rfl))
        have q17 : (gV τ7 27 0 (a1.toInt.toNat)).toInt = (gV τ 27 0 (a1.toInt.toNat)).toInt := congrArg Int32.toInt (show (gV τ7 27 0 (a1.toInt.toNat)) = (gV τ 27 0 (a1.toInt.toNat)) from (show gV τ7 27 0 (a1.toInt.toNat) = (gV τ 27 0 (a1.toInt.toNat)) from (f9.1 27 0 ((a1.toInt.toNat)) (by simp) (by decide)).trans rfl))
        show MW p l e _ s m args below meth c _ 7 G 0 0 198 [some (.ref (G.1 22 0)), none, none, some (.int a3), some (.int a4), some (.int a5), some (.int y6)] [.int x10] τ7
        exact m_iret C hr hlk (by decide) (by decide) dX12_copy_198 ⟨_, rfl, i8, g12, b11, (Or.inr (Or.inr (Or.inr (Or.inr (⟨by omega, by omega, by omega, by omega, by omega, by omega⟩)))))⟩
      · have f18 : y6.toInt < a5.toInt := by
          have q : _ := c5
          simp only [ti_nle, ti_nlt, ti_le, ti_lt, ti_eq, ti_ne, Classical.not_not] at q
          omega
        have b19 : IV y6 0 39 := ⟨by have q1 := b_y6; have q2 := b_a5; omega, by have q1 := b_y6; have q2 := b_a5; omega⟩
        have b20 : IV a5 1 40 := ⟨by have q1 := b_y6; have q2 := b_a5; omega, by have q1 := b_y6; have q2 := b_a5; omega⟩
        refine m_aload_n C dX12_copy_164 rfl rfl ?_
        refine g_22_2 C q4_118 dX12_copy_165 ?_
        refine m_bipush (v := 40) C dX12_copy_168 (by decide) ?_
        refine m_iload_n C dX12_copy_170 rfl rfl ?_
        refine m_imul C dX12_copy_171 ?_
        refine m_topi (fun x21 ex21 => ?_)
        have tx21 : x21.toInt = 40 * a3.toInt := by rw [ex21, ti_mulv kc_40 b_a3 (by decide), kt_40]
        have b22 : IV x21 0 280 := by rw [ex21]; exact iv_mul kc_40 b_a3 (by decide)
        refine m_iload C dX12_copy_172 rfl ?_
        refine m_iadd C dX12_copy_174 ?_
        refine m_topi (fun x23 ex23 => ?_)
        have tx23 : x23.toInt = x21.toInt + a4.toInt := by rw [ex23, ti_addv b22 b_a4 (by decide)]
        have b24 : IV x23 0 320 := by rw [ex23]; exact iv_add b22 b_a4 (by decide)
        refine m_iload C dX12_copy_175 rfl ?_
        refine m_iadd C dX12_copy_177 ?_
        refine m_topi (fun x25 ex25 => ?_)
        have tx25 : x25.toInt = x23.toInt + y6.toInt := by rw [ex25, ti_addv b24 b19 (by decide)]
        have b26 : IV x25 0 359 := by rw [ex25]; exact iv_add b24 b19 (by decide)
        refine m_aload_n C dX12_copy_178 rfl rfl ?_
        refine g_22_10 C q4_126 dX12_copy_179 ?_
        refine m_iload C dX12_copy_182 rfl ?_
        refine al_29 C b19 (by decide) rfl dX12_copy_184 ?_
        refine m_topi (fun x27 ex27 => ?_)
        have b28 : IV x25 0 319 := ⟨by have q1 := b26; omega, by have q1 := b26; omega⟩
        refine as_25 C b28 (by decide) rfl dX12_copy_185 ?_
        refine m_tops (fun τ29 eτ29 => ?_)
        have i30 : Inv τ29 := eτ29 ▸ Inv.putF iτ (by decide) rfl
        have f31 : Fr MS_X12_copyE AS_X12_copyE σ τ29 := eτ29 ▸ Fr.put (fτ) (Or.inr (by decide))
        obtain ⟨x32, ex32⟩ : ∃ y : Int32, y = y6 + 1 := ⟨_, rfl⟩
        have tx32 : x32.toInt = y6.toInt + 1 := by rw [ex32, ti_addv b19 kc_1 (by decide), kt_1]
        have b33 : IV x32 1 40 := by rw [ex32]; exact iv_add b19 kc_1 (by decide)
        refine m_iinc (v := x32) (L1 := [some (.ref (G.1 22 0)), none, none, some (.int a3), some (.int a4), some (.int a5), some (.int x32)]) C dX12_copy_186 rfl (by rw [ex32]; rfl) (by decide) rfl rfl ?_
        refine m_goto (tgt := 157) C dX12_copy_189 (by decide) ?_
        have q34 : (gV τ29 26 0 (a3.toInt.toNat)).toInt = (gV τ 26 0 (a3.toInt.toNat)).toInt := congrArg Int32.toInt (show (gV τ29 26 0 (a3.toInt.toNat)) = (gV τ 26 0 (a3.toInt.toNat)) from (show gV τ29 26 0 (a3.toInt.toNat) = (gV τ 26 0 (a3.toInt.toNat)) from gV_put eτ29 rfl))
        have q35 : (gV τ29 27 0 (a3.toInt.toNat)).toInt = (gV τ 27 0 (a3.toInt.toNat)).toInt := congrArg Int32.toInt (show (gV τ29 27 0 (a3.toInt.toNat)) = (gV τ 27 0 (a3.toInt.toNat)) from (show gV τ29 27 0 (a3.toInt.toNat) = (gV τ 27 0 (a3.toInt.toNat)) from gV_put eτ29 rfl))
        have q36 : (gV τ29 26 0 (a1.toInt.toNat)).toInt = (gV τ 26 0 (a1.toInt.toNat)).toInt := congrArg Int32.toInt (show (gV τ29 26 0 (a1.toInt.toNat)) = (gV τ 26 0 (a1.toInt.toNat)) from (show gV τ29 26 0 (a1.toInt.toNat) = (gV τ 26 0 (a1.toInt.toNat)) from gV_put eτ29 rfl))
        have q37 : (gV τ29 27 0 (a1.toInt.toNat)).toInt = (gV τ 27 0 (a1.toInt.toNat)).toInt := congrArg Int32.toInt (show (gV τ29 27 0 (a1.toInt.toNat)) = (gV τ 27 0 (a1.toInt.toNat)) from (show gV τ29 27 0 (a1.toInt.toNat) = (gV τ 27 0 (a1.toInt.toNat)) from gV_put eτ29 rfl))
        exact ih157 τ29 x32 i30 f31 b_a1 b_a2 b_a3 b_a4 (iv_wk b20 (by decide)) (iv_wk b33 (by decide)) (by omega) (by omega) (by have q := hm157; omega)
  have J120 : ∀ (n : Nat) (τ : Sg) (y6 : Int32), Inv τ → Fr MS_X12_copyE AS_X12_copyE σ τ → IV a1 0 7 → IV a2 0 40 → IV a3 0 7 → IV a4 0 40 → IV a5 0 40 → IV y6 0 40 → (a2.toInt + a5.toInt ≤ 40 ∧ a4.toInt + a5.toInt ≤ 40) → (((0 ≤ a1.toInt ∧ a1.toInt ≤ 7 ∧ 0 ≤ a3.toInt ∧ a3.toInt ≤ 7) ∧ 0 ≤ (gV σ 26 0 (a1.toInt.toNat)).toInt ∧ 0 ≤ (gV σ 26 0 (a3.toInt.toNat)).toInt ∧ (gV σ 26 0 (a1.toInt.toNat)).toInt = (gV σ 26 0 (a3.toInt.toNat)).toInt ∧ (0 ≤ a2.toInt ∧ 0 ≤ a4.toInt ∧ 0 ≤ a5.toInt ∧ a2.toInt + a5.toInt ≤ (gV σ 27 0 (a1.toInt.toNat)).toInt ∧ a4.toInt + a5.toInt ≤ (gV σ 27 0 (a3.toInt.toNat)).toInt))) → (40 - y6.toInt).toNat < n → MW p l e { frames := 2, cells := 0, slots := 0, locals := 45 } s m args below meth c (MQ below (QP G (PI fun r τ => Inv τ ∧ Fr MS_X12_copyE AS_X12_copyE σ τ ∧ IV r (-2147483648) 2147483647 ∧ (((a1.toInt < 0 ∨ 7 < a1.toInt ∨ a3.toInt < 0 ∨ 7 < a3.toInt) ∧ r.toInt = -1000001) ∨ ((0 ≤ a1.toInt ∧ a1.toInt ≤ 7 ∧ 0 ≤ a3.toInt ∧ a3.toInt ≤ 7) ∧ ((gV σ 26 0 (a1.toInt.toNat)).toInt < 0 ∨ (gV σ 26 0 (a3.toInt.toNat)).toInt < 0) ∧ r.toInt = -1000011) ∨ ((0 ≤ a1.toInt ∧ a1.toInt ≤ 7 ∧ 0 ≤ a3.toInt ∧ a3.toInt ≤ 7) ∧ ¬ ((gV σ 26 0 (a1.toInt.toNat)).toInt < 0) ∧ ¬ ((gV σ 26 0 (a3.toInt.toNat)).toInt < 0) ∧ (gV σ 26 0 (a1.toInt.toNat)).toInt ≠ (gV σ 26 0 (a3.toInt.toNat)).toInt ∧ r.toInt = -1000015) ∨ ((0 ≤ a1.toInt ∧ a1.toInt ≤ 7 ∧ 0 ≤ a3.toInt ∧ a3.toInt ≤ 7) ∧ ¬ ((gV σ 26 0 (a1.toInt.toNat)).toInt < 0) ∧ ¬ ((gV σ 26 0 (a3.toInt.toNat)).toInt < 0) ∧ (gV σ 26 0 (a1.toInt.toNat)).toInt = (gV σ 26 0 (a3.toInt.toNat)).toInt ∧ ¬ (0 ≤ a2.toInt ∧ 0 ≤ a4.toInt ∧ 0 ≤ a5.toInt ∧ a2.toInt + a5.toInt ≤ (gV σ 27 0 (a1.toInt.toNat)).toInt ∧ a4.toInt + a5.toInt ≤ (gV σ 27 0 (a3.toInt.toNat)).toInt) ∧ r.toInt = -1000012) ∨ ((0 ≤ a1.toInt ∧ a1.toInt ≤ 7 ∧ 0 ≤ a3.toInt ∧ a3.toInt ≤ 7) ∧ ¬ ((gV σ 26 0 (a1.toInt.toNat)).toInt < 0) ∧ ¬ ((gV σ 26 0 (a3.toInt.toNat)).toInt < 0) ∧ (gV σ 26 0 (a1.toInt.toNat)).toInt = (gV σ 26 0 (a3.toInt.toNat)).toInt ∧ (0 ≤ a2.toInt ∧ 0 ≤ a4.toInt ∧ 0 ≤ a5.toInt ∧ a2.toInt + a5.toInt ≤ (gV σ 27 0 (a1.toInt.toNat)).toInt ∧ a4.toInt + a5.toInt ≤ (gV σ 27 0 (a3.toInt.toNat)).toInt) ∧ r.toInt = a5.toInt)))) args s 0 0 (aG G)) 7 G 0 0 120 [some (.ref (G.1 22 0)), some (.int a1), some (.int a2), some (.int a3), some (.int a4), some (.int a5), some (.int y6)] [] τ := by
    intro n
    induction n with
    | zero => intro τ y6 iτ fτ b_a1 b_a2 b_a3 b_a4 b_a5 b_y6 n38 n39 hm; exact absurd hm (Nat.not_lt_zero _)
    | succ n ih120 =>
      intro τ y6 iτ fτ b_a1 b_a2 b_a3 b_a4 b_a5 b_y6 n38 n39 hm120
      have u40 : IV (gV τ 27 0 (a3.toInt.toNat)) 0 40 := iτ.1 27 0 (a3.toInt.toNat)
      have u41 : IV (gV τ 27 0 (a1.toInt.toNat)) 0 40 := iτ.1 27 0 (a1.toInt.toNat)
      refine m_iload C dX12_copy_120 rfl ?_
      refine m_iload C dX12_copy_122 rfl ?_
      refine m_icmp_ge (tgt := 154) C dX12_copy_124 (by decide) (fun c42 => ?_) (fun c42 => ?_)
      · have f43 : a5.toInt ≤ y6.toInt := by
          have q : _ := c42
          simp only [ti_nle, ti_nlt, ti_le, ti_lt, ti_eq, ti_ne, Classical.not_not] at q
          omega
        refine m_iconst (v := 0) C dX12_copy_154 (by decide) ?_
        refine m_istore (L1 := [some (.ref (G.1 22 0)), some (.int a1), some (.int a2), some (.int a3), some (.int a4), some (.int a5), some (.int 0)]) C dX12_copy_155 (by decide) rfl rfl ?_
        refine m_sub (L1 := [some (.ref (G.1 22 0)), none, none, some (.int a3), some (.int a4), some (.int a5), some (.int 0)]) ⟨rfl, ⟨rfl, ⟨rfl, ⟨rfl, ⟨rfl, trivial⟩⟩⟩⟩⟩ ?_
        exact J157 ((40 - (0 : Int32).toInt).toNat + 1) τ 0 iτ fτ b_a1 b_a2 b_a3 b_a4 b_a5 (iv_wk kc_0 (by decide)) (by omega) (by omega) (Nat.lt_succ_self _)
      · have f44 : y6.toInt < a5.toInt := by
          have q : _ := c42
          simp only [ti_nle, ti_nlt, ti_le, ti_lt, ti_eq, ti_ne, Classical.not_not] at q
          omega
        have b45 : IV y6 0 39 := ⟨by have q1 := b_y6; have q2 := b_a5; omega, by have q1 := b_y6; have q2 := b_a5; omega⟩
        have b46 : IV a5 1 40 := ⟨by have q1 := b_y6; have q2 := b_a5; omega, by have q1 := b_y6; have q2 := b_a5; omega⟩
        refine m_aload_n C dX12_copy_127 rfl rfl ?_
        refine g_22_10 C q4_126 dX12_copy_128 ?_
        refine m_iload C dX12_copy_131 rfl ?_
        refine m_aload_n C dX12_copy_133 rfl rfl ?_
        refine g_22_2 C q4_118 dX12_copy_134 ?_
        refine m_bipush (v := 40) C dX12_copy_137 (by decide) ?_
        refine m_iload_n C dX12_copy_139 rfl rfl ?_
        refine m_imul C dX12_copy_140 ?_
        refine m_topi (fun x47 ex47 => ?_)
        have tx47 : x47.toInt = 40 * a1.toInt := by rw [ex47, ti_mulv kc_40 b_a1 (by decide), kt_40]
        have b48 : IV x47 0 280 := by rw [ex47]; exact iv_mul kc_40 b_a1 (by decide)
        refine m_iload_n C dX12_copy_141 rfl rfl ?_
        refine m_iadd C dX12_copy_142 ?_
        refine m_topi (fun x49 ex49 => ?_)
        have tx49 : x49.toInt = x47.toInt + a2.toInt := by rw [ex49, ti_addv b48 b_a2 (by decide)]
        have b50 : IV x49 0 320 := by rw [ex49]; exact iv_add b48 b_a2 (by decide)
        refine m_iload C dX12_copy_143 rfl ?_
        refine m_iadd C dX12_copy_145 ?_
        refine m_topi (fun x51 ex51 => ?_)
        have tx51 : x51.toInt = x49.toInt + y6.toInt := by rw [ex51, ti_addv b50 b45 (by decide)]
        have b52 : IV x51 0 359 := by rw [ex51]; exact iv_add b50 b45 (by decide)
        have b53 : IV x51 0 319 := ⟨by have q1 := b52; omega, by have q1 := b52; omega⟩
        refine al_25 C b53 (by decide) rfl dX12_copy_146 ?_
        refine m_topi (fun x54 ex54 => ?_)
        refine as_29 C b45 (by decide) rfl dX12_copy_147 ?_
        refine m_tops (fun τ55 eτ55 => ?_)
        have i56 : Inv τ55 := eτ55 ▸ Inv.putF iτ (by decide) rfl
        have f57 : Fr MS_X12_copyE AS_X12_copyE σ τ55 := eτ55 ▸ Fr.put (fτ) (Or.inr (by decide))
        obtain ⟨x58, ex58⟩ : ∃ y : Int32, y = y6 + 1 := ⟨_, rfl⟩
        have tx58 : x58.toInt = y6.toInt + 1 := by rw [ex58, ti_addv b45 kc_1 (by decide), kt_1]
        have b59 : IV x58 1 40 := by rw [ex58]; exact iv_add b45 kc_1 (by decide)
        refine m_iinc (v := x58) (L1 := [some (.ref (G.1 22 0)), some (.int a1), some (.int a2), some (.int a3), some (.int a4), some (.int a5), some (.int x58)]) C dX12_copy_148 rfl (by rw [ex58]; rfl) (by decide) rfl rfl ?_
        refine m_goto (tgt := 120) C dX12_copy_151 (by decide) ?_
        have q60 : (gV τ55 26 0 (a3.toInt.toNat)).toInt = (gV τ 26 0 (a3.toInt.toNat)).toInt := congrArg Int32.toInt (show (gV τ55 26 0 (a3.toInt.toNat)) = (gV τ 26 0 (a3.toInt.toNat)) from (show gV τ55 26 0 (a3.toInt.toNat) = (gV τ 26 0 (a3.toInt.toNat)) from gV_put eτ55 rfl))
        have q61 : (gV τ55 27 0 (a3.toInt.toNat)).toInt = (gV τ 27 0 (a3.toInt.toNat)).toInt := congrArg Int32.toInt (show (gV τ55 27 0 (a3.toInt.toNat)) = (gV τ 27 0 (a3.toInt.toNat)) from (show gV τ55 27 0 (a3.toInt.toNat) = (gV τ 27 0 (a3.toInt.toNat)) from gV_put eτ55 rfl))
        have q62 : (gV τ55 26 0 (a1.toInt.toNat)).toInt = (gV τ 26 0 (a1.toInt.toNat)).toInt := congrArg Int32.toInt (show (gV τ55 26 0 (a1.toInt.toNat)) = (gV τ 26 0 (a1.toInt.toNat)) from (show gV τ55 26 0 (a1.toInt.toNat) = (gV τ 26 0 (a1.toInt.toNat)) from gV_put eτ55 rfl))
        have q63 : (gV τ55 27 0 (a1.toInt.toNat)).toInt = (gV τ 27 0 (a1.toInt.toNat)).toInt := congrArg Int32.toInt (show (gV τ55 27 0 (a1.toInt.toNat)) = (gV τ 27 0 (a1.toInt.toNat)) from (show gV τ55 27 0 (a1.toInt.toNat) = (gV τ 27 0 (a1.toInt.toNat)) from gV_put eτ55 rfl))
        exact ih120 τ55 x58 i56 f57 b_a1 b_a2 b_a3 b_a4 (iv_wk b46 (by decide)) (iv_wk b59 (by decide)) (by omega) (by omega) (by have q := hm120; omega)
  have u64 : IV (gV σ 27 0 (a3.toInt.toNat)) 0 40 := hI.1 27 0 (a3.toInt.toNat)
  have u65 : IV (gV σ 27 0 (a1.toInt.toNat)) 0 40 := hI.1 27 0 (a1.toInt.toNat)
  refine m_iload_n C dX12_copy_0 rfl rfl ?_
  refine m_callS (n := 1) (st := []) C (c_X12_isRow l G σ (a1) hI ) q4_186 q4_184 q4_185 q1_7 (by decide +kernel) rfl (by decide) (by decide) rfl (Nat.le_of_ble_eq_true rfl) dX12_copy_1 ?_
  rintro _ τ66 ⟨x69, rfl, i67, f68, b70, h72⟩
  have g71 : Fr MS_X12_copyE AS_X12_copyE σ τ66 := Fr.call (Fr.rf) f68 (by decide)
  have q73 : (gV τ66 26 0 (a3.toInt.toNat)).toInt = (gV σ 26 0 (a3.toInt.toNat)).toInt := congrArg Int32.toInt (show (gV τ66 26 0 (a3.toInt.toNat)) = (gV σ 26 0 (a3.toInt.toNat)) from (show gV τ66 26 0 (a3.toInt.toNat) = (gV σ 26 0 (a3.toInt.toNat)) from (f68.1 26 0 ((a3.toInt.toNat)) (by simp) (by decide)).trans rfl))
  have q74 : (gV τ66 27 0 (a3.toInt.toNat)).toInt = (gV σ 27 0 (a3.toInt.toNat)).toInt := congrArg Int32.toInt (show (gV τ66 27 0 (a3.toInt.toNat)) = (gV σ 27 0 (a3.toInt.toNat)) from (show gV τ66 27 0 (a3.toInt.toNat) = (gV σ 27 0 (a3.toInt.toNat)) from (f68.1 27 0 ((a3.toInt.toNat)) (by simp) (by decide)).trans rfl))
  have q75 : (gV τ66 26 0 (a1.toInt.toNat)).toInt = (gV σ 26 0 (a1.toInt.toNat)).toInt := congrArg Int32.toInt (show (gV τ66 26 0 (a1.toInt.toNat)) = (gV σ 26 0 (a1.toInt.toNat)) from (show gV τ66 26 0 (a1.toInt.toNat) = (gV σ 26 0 (a1.toInt.toNat)) from (f68.1 26 0 ((a1.toInt.toNat)) (by simp) (by decide)).trans rfl))
  have q76 : (gV τ66 27 0 (a1.toInt.toNat)).toInt = (gV σ 27 0 (a1.toInt.toNat)).toInt := congrArg Int32.toInt (show (gV τ66 27 0 (a1.toInt.toNat)) = (gV σ 27 0 (a1.toInt.toNat)) from (show gV τ66 27 0 (a1.toInt.toNat) = (gV σ 27 0 (a1.toInt.toNat)) from (f68.1 27 0 ((a1.toInt.toNat)) (by simp) (by decide)).trans rfl))
  rcases h72 with ⟨h72_0, h72_1, h72_2⟩ | ⟨h72_0, h72_1⟩
  · skip
    have b77 : IV x69 1 1 := ⟨by omega, by omega⟩
    show MW p l e _ s m args below meth c _ 7 G 0 0 4 [some (.ref (G.1 22 0)), some (.int a1), some (.int a2), some (.int a3), some (.int a4), some (.int a5), none] [.int x69] τ66
    refine m_if_eq (tgt := 14) C dX12_copy_4 (by decide) (fun c78 => ?_) (fun c78 => ?_)
    · exfalso
      have q : _ := c78
      simp only [ti_nle, ti_nlt, ti_le, ti_lt, ti_eq, ti_ne, Classical.not_not, kt_0] at q
      have q1 := b77; have q2 := kc_0; omega
    · have f80 : x69.toInt ≠ 0 := by
        have q : _ := c78
        simp only [ti_nle, ti_nlt, ti_le, ti_lt, ti_eq, ti_ne, Classical.not_not, kt_0] at q
        omega
      have b81 : IV a1 0 7 := ⟨by have q1 := (iv_any a1); omega, by have q1 := (iv_any a1); omega⟩
      refine m_iload_n C dX12_copy_7 rfl rfl ?_
      refine m_callS (n := 1) (st := []) C (c_X12_isRow l G τ66 (a3) i67 ) q4_186 q4_184 q4_185 q1_7 (by decide +kernel) rfl (by decide) (by decide) rfl (Nat.le_of_ble_eq_true rfl) dX12_copy_8 ?_
      rintro _ τ82 ⟨x85, rfl, i83, f84, b86, h88⟩
      have g87 : Fr MS_X12_copyE AS_X12_copyE σ τ82 := Fr.call (g71) f84 (by decide)
      have q89 : (gV τ82 26 0 (a3.toInt.toNat)).toInt = (gV σ 26 0 (a3.toInt.toNat)).toInt := congrArg Int32.toInt (show (gV τ82 26 0 (a3.toInt.toNat)) = (gV σ 26 0 (a3.toInt.toNat)) from (show gV τ82 26 0 (a3.toInt.toNat) = (gV σ 26 0 (a3.toInt.toNat)) from (f84.1 26 0 ((a3.toInt.toNat)) (by simp) (by decide)).trans (show gV τ66 26 0 (a3.toInt.toNat) = (gV σ 26 0 (a3.toInt.toNat)) from (f68.1 26 0 ((a3.toInt.toNat)) (by simp) (by decide)).trans rfl)))
      have q90 : (gV τ82 27 0 (a3.toInt.toNat)).toInt = (gV σ 27 0 (a3.toInt.toNat)).toInt := congrArg Int32.toInt (show (gV τ82 27 0 (a3.toInt.toNat)) = (gV σ 27 0 (a3.toInt.toNat)) from (show gV τ82 27 0 (a3.toInt.toNat) = (gV σ 27 0 (a3.toInt.toNat)) from (f84.1 27 0 ((a3.toInt.toNat)) (by simp) (by decide)).trans (show gV τ66 27 0 (a3.toInt.toNat) = (gV σ 27 0 (a3.toInt.toNat)) from (f68.1 27 0 ((a3.toInt.toNat)) (by simp) (by decide)).trans rfl)))
      have q91 : (gV τ82 26 0 (a1.toInt.toNat)).toInt = (gV σ 26 0 (a1.toInt.toNat)).toInt := congrArg Int32.toInt (show (gV τ82 26 0 (a1.toInt.toNat)) = (gV σ 26 0 (a1.toInt.toNat)) from (show gV τ82 26 0 (a1.toInt.toNat) = (gV σ 26 0 (a1.toInt.toNat)) from (f84.1 26 0 ((a1.toInt.toNat)) (by simp) (by decide)).trans (show gV τ66 26 0 (a1.toInt.toNat) = (gV σ 26 0 (a1.toInt.toNat)) from (f68.1 26 0 ((a1.toInt.toNat)) (by simp) (by decide)).trans rfl)))
      have q92 : (gV τ82 27 0 (a1.toInt.toNat)).toInt = (gV σ 27 0 (a1.toInt.toNat)).toInt := congrArg Int32.toInt (show (gV τ82 27 0 (a1.toInt.toNat)) = (gV σ 27 0 (a1.toInt.toNat)) from (show gV τ82 27 0 (a1.toInt.toNat) = (gV σ 27 0 (a1.toInt.toNat)) from (f84.1 27 0 ((a1.toInt.toNat)) (by simp) (by decide)).trans (show gV τ66 27 0 (a1.toInt.toNat) = (gV σ 27 0 (a1.toInt.toNat)) from (f68.1 27 0 ((a1.toInt.toNat)) (by simp) (by decide)).trans rfl)))
      rcases h88 with ⟨h88_0, h88_1, h88_2⟩ | ⟨h88_0, h88_1⟩
      · skip
        have b93 : IV x85 1 1 := ⟨by omega, by omega⟩
        show MW p l e _ s m args below meth c _ 7 G 0 0 11 [some (.ref (G.1 22 0)), some (.int a1), some (.int a2), some (.int a3), some (.int a4), some (.int a5), none] [.int x85] τ82
        refine m_if_ne (tgt := 17) C dX12_copy_11 (by decide) (fun c94 => ?_) (fun c94 => ?_)
        · have f95 : x85.toInt ≠ 0 := by
            have q : _ := c94
            simp only [ti_nle, ti_nlt, ti_le, ti_lt, ti_eq, ti_ne, Classical.not_not, kt_0] at q
            omega
          have b96 : IV a3 0 7 := ⟨by have q1 := (iv_any a3); omega, by have q1 := (iv_any a3); omega⟩
          refine m_aload_n C dX12_copy_17 rfl rfl ?_
          refine g_22_3 C q4_119 dX12_copy_18 ?_
          refine m_iload_n C dX12_copy_21 rfl rfl ?_
          refine al_26 C b81 (by decide) rfl dX12_copy_22 ?_
          refine m_eqs (w := (gV σ 26 0 (a1.toInt.toNat))) (show gV τ82 26 0 (a1.toInt.toNat) = (gV σ 26 0 (a1.toInt.toNat)) from (f84.1 26 0 ((a1.toInt.toNat)) (by simp) (by decide)).trans (show gV τ66 26 0 (a1.toInt.toNat) = (gV σ 26 0 (a1.toInt.toNat)) from (f68.1 26 0 ((a1.toInt.toNat)) (by simp) (by decide)).trans rfl)) ?_
          refine m_if_lt (tgt := 35) C dX12_copy_23 (by decide) (fun c97 => ?_) (fun c97 => ?_)
          · have f98 : (gV σ 26 0 (a1.toInt.toNat)).toInt < 0 := by
              have q : _ := c97
              simp only [ti_nle, ti_nlt, ti_le, ti_lt, ti_eq, ti_ne, Classical.not_not, kt_0] at q
              omega
            have b99 : IV (gV σ 26 0 (a1.toInt.toNat)) (-2147483648) (-1) := ⟨by have q1 := (iv_any (gV σ 26 0 (a1.toInt.toNat))); have q2 := kc_0; omega, by have q1 := (iv_any (gV σ 26 0 (a1.toInt.toNat))); have q2 := kc_0; omega⟩
            refine m_aload_n C dX12_copy_35 rfl rfl ?_
            refine m_iconst (v := 1) C dX12_copy_36 (by decide) ?_
            refine m_callV (n := 1) (ci := 11) (st := []) C (c_X12_met l G τ82 (1) i83 (iv_wk kc_1 (by decide))) (by decide) (by decide) rfl rfl rfl q4_196 q4_193 q4_195 q0_26 q1_7 (by decide +kernel) rfl (by decide) (by decide) rfl (Nat.le_of_ble_eq_true rfl) dX12_copy_37 ?_
            rintro _ τ100 ⟨x103, rfl, i101, f102, b104, h106⟩
            have g105 : Fr MS_X12_copyE AS_X12_copyE σ τ100 := Fr.call (g87) f102 (by decide)
            have q107 : (gV τ100 26 0 (a3.toInt.toNat)).toInt = (gV σ 26 0 (a3.toInt.toNat)).toInt := congrArg Int32.toInt (show (gV τ100 26 0 (a3.toInt.toNat)) = (gV σ 26 0 (a3.toInt.toNat)) from (show gV τ100 26 0 (a3.toInt.toNat) = (gV σ 26 0 (a3.toInt.toNat)) from (f102.1 26 0 ((a3.toInt.toNat)) (by simp) (by decide)).trans (show gV τ82 26 0 (a3.toInt.toNat) = (gV σ 26 0 (a3.toInt.toNat)) from (f84.1 26 0 ((a3.toInt.toNat)) (by simp) (by decide)).trans (show gV τ66 26 0 (a3.toInt.toNat) = (gV σ 26 0 (a3.toInt.toNat)) from (f68.1 26 0 ((a3.toInt.toNat)) (by simp) (by decide)).trans rfl))))
            have q108 : (gV τ100 27 0 (a3.toInt.toNat)).toInt = (gV σ 27 0 (a3.toInt.toNat)).toInt := congrArg Int32.toInt (show (gV τ100 27 0 (a3.toInt.toNat)) = (gV σ 27 0 (a3.toInt.toNat)) from (show gV τ100 27 0 (a3.toInt.toNat) = (gV σ 27 0 (a3.toInt.toNat)) from (f102.1 27 0 ((a3.toInt.toNat)) (by simp) (by decide)).trans (show gV τ82 27 0 (a3.toInt.toNat) = (gV σ 27 0 (a3.toInt.toNat)) from (f84.1 27 0 ((a3.toInt.toNat)) (by simp) (by decide)).trans (show gV τ66 27 0 (a3.toInt.toNat) = (gV σ 27 0 (a3.toInt.toNat)) from (f68.1 27 0 ((a3.toInt.toNat)) (by simp) (by decide)).trans rfl))))
            have q109 : (gV τ100 26 0 (a1.toInt.toNat)).toInt = (gV σ 26 0 (a1.toInt.toNat)).toInt := congrArg Int32.toInt (show (gV τ100 26 0 (a1.toInt.toNat)) = (gV σ 26 0 (a1.toInt.toNat)) from (show gV τ100 26 0 (a1.toInt.toNat) = (gV σ 26 0 (a1.toInt.toNat)) from (f102.1 26 0 ((a1.toInt.toNat)) (by simp) (by decide)).trans (show gV τ82 26 0 (a1.toInt.toNat) = (gV σ 26 0 (a1.toInt.toNat)) from (f84.1 26 0 ((a1.toInt.toNat)) (by simp) (by decide)).trans (show gV τ66 26 0 (a1.toInt.toNat) = (gV σ 26 0 (a1.toInt.toNat)) from (f68.1 26 0 ((a1.toInt.toNat)) (by simp) (by decide)).trans rfl))))
            have q110 : (gV τ100 27 0 (a1.toInt.toNat)).toInt = (gV σ 27 0 (a1.toInt.toNat)).toInt := congrArg Int32.toInt (show (gV τ100 27 0 (a1.toInt.toNat)) = (gV σ 27 0 (a1.toInt.toNat)) from (show gV τ100 27 0 (a1.toInt.toNat) = (gV σ 27 0 (a1.toInt.toNat)) from (f102.1 27 0 ((a1.toInt.toNat)) (by simp) (by decide)).trans (show gV τ82 27 0 (a1.toInt.toNat) = (gV σ 27 0 (a1.toInt.toNat)) from (f84.1 27 0 ((a1.toInt.toNat)) (by simp) (by decide)).trans (show gV τ66 27 0 (a1.toInt.toNat) = (gV σ 27 0 (a1.toInt.toNat)) from (f68.1 27 0 ((a1.toInt.toNat)) (by simp) (by decide)).trans rfl))))
            have q111 := kt_1
            show MW p l e _ s m args below meth c _ 7 G 0 0 40 [some (.ref (G.1 22 0)), some (.int a1), some (.int a2), some (.int a3), some (.int a4), some (.int a5), none] [.int x103] τ100
            exact m_iret C hr hlk (by decide) (by decide) dX12_copy_40 ⟨_, rfl, i101, g105, (iv_wk b104 (by decide)), (Or.inr (Or.inl ⟨by omega, by omega, by omega⟩))⟩
          · have f112 : 0 ≤ (gV σ 26 0 (a1.toInt.toNat)).toInt := by
              have q : _ := c97
              simp only [ti_nle, ti_nlt, ti_le, ti_lt, ti_eq, ti_ne, Classical.not_not, kt_0] at q
              omega
            have b113 : IV (gV σ 26 0 (a1.toInt.toNat)) 0 2147483647 := ⟨by have q1 := kc_0; have q2 := (iv_any (gV σ 26 0 (a1.toInt.toNat))); omega, by have q1 := kc_0; have q2 := (iv_any (gV σ 26 0 (a1.toInt.toNat))); omega⟩
            refine m_aload_n C dX12_copy_26 rfl rfl ?_
            refine g_22_3 C q4_119 dX12_copy_27 ?_
            refine m_iload_n C dX12_copy_30 rfl rfl ?_
            refine al_26 C b96 (by decide) rfl dX12_copy_31 ?_
            refine m_eqs (w := (gV σ 26 0 (a3.toInt.toNat))) (show gV τ82 26 0 (a3.toInt.toNat) = (gV σ 26 0 (a3.toInt.toNat)) from (f84.1 26 0 ((a3.toInt.toNat)) (by simp) (by decide)).trans (show gV τ66 26 0 (a3.toInt.toNat) = (gV σ 26 0 (a3.toInt.toNat)) from (f68.1 26 0 ((a3.toInt.toNat)) (by simp) (by decide)).trans rfl)) ?_
            refine m_if_ge (tgt := 41) C dX12_copy_32 (by decide) (fun c114 => ?_) (fun c114 => ?_)
            · have f115 : 0 ≤ (gV σ 26 0 (a3.toInt.toNat)).toInt := by
                have q : _ := c114
                simp only [ti_nle, ti_nlt, ti_le, ti_lt, ti_eq, ti_ne, Classical.not_not, kt_0] at q
                omega
              have b116 : IV (gV σ 26 0 (a3.toInt.toNat)) 0 2147483647 := ⟨by have q1 := kc_0; have q2 := (iv_any (gV σ 26 0 (a3.toInt.toNat))); omega, by have q1 := kc_0; have q2 := (iv_any (gV σ 26 0 (a3.toInt.toNat))); omega⟩
              refine m_aload_n C dX12_copy_41 rfl rfl ?_
              refine g_22_3 C q4_119 dX12_copy_42 ?_
              refine m_iload_n C dX12_copy_45 rfl rfl ?_
              refine al_26 C b81 (by decide) rfl dX12_copy_46 ?_
              refine m_eqs (w := (gV σ 26 0 (a1.toInt.toNat))) (show gV τ82 26 0 (a1.toInt.toNat) = (gV σ 26 0 (a1.toInt.toNat)) from (f84.1 26 0 ((a1.toInt.toNat)) (by simp) (by decide)).trans (show gV τ66 26 0 (a1.toInt.toNat) = (gV σ 26 0 (a1.toInt.toNat)) from (f68.1 26 0 ((a1.toInt.toNat)) (by simp) (by decide)).trans rfl)) ?_
              refine m_aload_n C dX12_copy_47 rfl rfl ?_
              refine g_22_3 C q4_119 dX12_copy_48 ?_
              refine m_iload_n C dX12_copy_51 rfl rfl ?_
              refine al_26 C b96 (by decide) rfl dX12_copy_52 ?_
              refine m_eqs (w := (gV σ 26 0 (a3.toInt.toNat))) (show gV τ82 26 0 (a3.toInt.toNat) = (gV σ 26 0 (a3.toInt.toNat)) from (f84.1 26 0 ((a3.toInt.toNat)) (by simp) (by decide)).trans (show gV τ66 26 0 (a3.toInt.toNat) = (gV σ 26 0 (a3.toInt.toNat)) from (f68.1 26 0 ((a3.toInt.toNat)) (by simp) (by decide)).trans rfl)) ?_
              refine m_icmp_eq (tgt := 62) C dX12_copy_53 (by decide) (fun c117 => ?_) (fun c117 => ?_)
              · have f118 : (gV σ 26 0 (a1.toInt.toNat)).toInt = (gV σ 26 0 (a3.toInt.toNat)).toInt := by
                  have q : _ := c117
                  simp only [ti_nle, ti_nlt, ti_le, ti_lt, ti_eq, ti_ne, Classical.not_not] at q
                  omega
                refine m_iload_n C dX12_copy_62 rfl rfl ?_
                refine m_if_lt (tgt := 111) C dX12_copy_63 (by decide) (fun c119 => ?_) (fun c119 => ?_)
                · have f120 : a2.toInt < 0 := by
                    have q : _ := c119
                    simp only [ti_nle, ti_nlt, ti_le, ti_lt, ti_eq, ti_ne, Classical.not_not, kt_0] at q
                    omega
                  have b121 : IV a2 (-2147483648) (-1) := ⟨by have q1 := (iv_any a2); have q2 := kc_0; omega, by have q1 := (iv_any a2); have q2 := kc_0; omega⟩
                  refine m_aload_n C dX12_copy_111 rfl rfl ?_
                  refine m_iconst (v := 2) C dX12_copy_112 (by decide) ?_
                  refine m_callV (n := 1) (ci := 11) (st := []) C (c_X12_met l G τ82 (2) i83 (iv_wk kc_2 (by decide))) (by decide) (by decide) rfl rfl rfl q4_196 q4_193 q4_195 q0_26 q1_7 (by decide +kernel) rfl (by decide) (by decide) rfl (Nat.le_of_ble_eq_true rfl) dX12_copy_113 ?_
                  rintro _ τ122 ⟨x125, rfl, i123, f124, b126, h128⟩
                  have g127 : Fr MS_X12_copyE AS_X12_copyE σ τ122 := Fr.call (g87) f124 (by decide)
                  have q129 : (gV τ122 26 0 (a3.toInt.toNat)).toInt = (gV σ 26 0 (a3.toInt.toNat)).toInt := congrArg Int32.toInt (show (gV τ122 26 0 (a3.toInt.toNat)) = (gV σ 26 0 (a3.toInt.toNat)) from (show gV τ122 26 0 (a3.toInt.toNat) = (gV σ 26 0 (a3.toInt.toNat)) from (f124.1 26 0 ((a3.toInt.toNat)) (by simp) (by decide)).trans (show gV τ82 26 0 (a3.toInt.toNat) = (gV σ 26 0 (a3.toInt.toNat)) from (f84.1 26 0 ((a3.toInt.toNat)) (by simp) (by decide)).trans (show gV τ66 26 0 (a3.toInt.toNat) = (gV σ 26 0 (a3.toInt.toNat)) from (f68.1 26 0 ((a3.toInt.toNat)) (by simp) (by decide)).trans rfl))))
                  have q130 : (gV τ122 27 0 (a3.toInt.toNat)).toInt = (gV σ 27 0 (a3.toInt.toNat)).toInt := congrArg Int32.toInt (show (gV τ122 27 0 (a3.toInt.toNat)) = (gV σ 27 0 (a3.toInt.toNat)) from (show gV τ122 27 0 (a3.toInt.toNat) = (gV σ 27 0 (a3.toInt.toNat)) from (f124.1 27 0 ((a3.toInt.toNat)) (by simp) (by decide)).trans (show gV τ82 27 0 (a3.toInt.toNat) = (gV σ 27 0 (a3.toInt.toNat)) from (f84.1 27 0 ((a3.toInt.toNat)) (by simp) (by decide)).trans (show gV τ66 27 0 (a3.toInt.toNat) = (gV σ 27 0 (a3.toInt.toNat)) from (f68.1 27 0 ((a3.toInt.toNat)) (by simp) (by decide)).trans rfl))))
                  have q131 : (gV τ122 26 0 (a1.toInt.toNat)).toInt = (gV σ 26 0 (a1.toInt.toNat)).toInt := congrArg Int32.toInt (show (gV τ122 26 0 (a1.toInt.toNat)) = (gV σ 26 0 (a1.toInt.toNat)) from (show gV τ122 26 0 (a1.toInt.toNat) = (gV σ 26 0 (a1.toInt.toNat)) from (f124.1 26 0 ((a1.toInt.toNat)) (by simp) (by decide)).trans (show gV τ82 26 0 (a1.toInt.toNat) = (gV σ 26 0 (a1.toInt.toNat)) from (f84.1 26 0 ((a1.toInt.toNat)) (by simp) (by decide)).trans (show gV τ66 26 0 (a1.toInt.toNat) = (gV σ 26 0 (a1.toInt.toNat)) from (f68.1 26 0 ((a1.toInt.toNat)) (by simp) (by decide)).trans rfl))))
                  have q132 : (gV τ122 27 0 (a1.toInt.toNat)).toInt = (gV σ 27 0 (a1.toInt.toNat)).toInt := congrArg Int32.toInt (show (gV τ122 27 0 (a1.toInt.toNat)) = (gV σ 27 0 (a1.toInt.toNat)) from (show gV τ122 27 0 (a1.toInt.toNat) = (gV σ 27 0 (a1.toInt.toNat)) from (f124.1 27 0 ((a1.toInt.toNat)) (by simp) (by decide)).trans (show gV τ82 27 0 (a1.toInt.toNat) = (gV σ 27 0 (a1.toInt.toNat)) from (f84.1 27 0 ((a1.toInt.toNat)) (by simp) (by decide)).trans (show gV τ66 27 0 (a1.toInt.toNat) = (gV σ 27 0 (a1.toInt.toNat)) from (f68.1 27 0 ((a1.toInt.toNat)) (by simp) (by decide)).trans rfl))))
                  have q133 := kt_2
                  show MW p l e _ s m args below meth c _ 7 G 0 0 116 [some (.ref (G.1 22 0)), some (.int a1), some (.int a2), some (.int a3), some (.int a4), some (.int a5), none] [.int x125] τ122
                  exact m_iret C hr hlk (by decide) (by decide) dX12_copy_116 ⟨_, rfl, i123, g127, (iv_wk b126 (by decide)), (Or.inr (Or.inr (Or.inr (Or.inl ⟨by omega, by omega, by omega, by omega, by omega, by omega⟩))))⟩
                · have f134 : 0 ≤ a2.toInt := by
                    have q : _ := c119
                    simp only [ti_nle, ti_nlt, ti_le, ti_lt, ti_eq, ti_ne, Classical.not_not, kt_0] at q
                    omega
                  have b135 : IV a2 0 2147483647 := ⟨by have q1 := kc_0; have q2 := (iv_any a2); omega, by have q1 := kc_0; have q2 := (iv_any a2); omega⟩
                  refine m_iload C dX12_copy_66 rfl ?_
                  refine m_if_lt (tgt := 111) C dX12_copy_68 (by decide) (fun c136 => ?_) (fun c136 => ?_)
                  · have f137 : a4.toInt < 0 := by
                      have q : _ := c136
                      simp only [ti_nle, ti_nlt, ti_le, ti_lt, ti_eq, ti_ne, Classical.not_not, kt_0] at q
                      omega
                    have b138 : IV a4 (-2147483648) (-1) := ⟨by have q1 := (iv_any a4); have q2 := kc_0; omega, by have q1 := (iv_any a4); have q2 := kc_0; omega⟩
                    refine m_aload_n C dX12_copy_111 rfl rfl ?_
                    refine m_iconst (v := 2) C dX12_copy_112 (by decide) ?_
                    refine m_callV (n := 1) (ci := 11) (st := []) C (c_X12_met l G τ82 (2) i83 (iv_wk kc_2 (by decide))) (by decide) (by decide) rfl rfl rfl q4_196 q4_193 q4_195 q0_26 q1_7 (by decide +kernel) rfl (by decide) (by decide) rfl (Nat.le_of_ble_eq_true rfl) dX12_copy_113 ?_
                    rintro _ τ139 ⟨x142, rfl, i140, f141, b143, h145⟩
                    have g144 : Fr MS_X12_copyE AS_X12_copyE σ τ139 := Fr.call (g87) f141 (by decide)
                    have q146 : (gV τ139 26 0 (a3.toInt.toNat)).toInt = (gV σ 26 0 (a3.toInt.toNat)).toInt := congrArg Int32.toInt (show (gV τ139 26 0 (a3.toInt.toNat)) = (gV σ 26 0 (a3.toInt.toNat)) from (show gV τ139 26 0 (a3.toInt.toNat) = (gV σ 26 0 (a3.toInt.toNat)) from (f141.1 26 0 ((a3.toInt.toNat)) (by simp) (by decide)).trans (show gV τ82 26 0 (a3.toInt.toNat) = (gV σ 26 0 (a3.toInt.toNat)) from (f84.1 26 0 ((a3.toInt.toNat)) (by simp) (by decide)).trans (show gV τ66 26 0 (a3.toInt.toNat) = (gV σ 26 0 (a3.toInt.toNat)) from (f68.1 26 0 ((a3.toInt.toNat)) (by simp) (by decide)).trans rfl))))
                    have q147 : (gV τ139 27 0 (a3.toInt.toNat)).toInt = (gV σ 27 0 (a3.toInt.toNat)).toInt := congrArg Int32.toInt (show (gV τ139 27 0 (a3.toInt.toNat)) = (gV σ 27 0 (a3.toInt.toNat)) from (show gV τ139 27 0 (a3.toInt.toNat) = (gV σ 27 0 (a3.toInt.toNat)) from (f141.1 27 0 ((a3.toInt.toNat)) (by simp) (by decide)).trans (show gV τ82 27 0 (a3.toInt.toNat) = (gV σ 27 0 (a3.toInt.toNat)) from (f84.1 27 0 ((a3.toInt.toNat)) (by simp) (by decide)).trans (show gV τ66 27 0 (a3.toInt.toNat) = (gV σ 27 0 (a3.toInt.toNat)) from (f68.1 27 0 ((a3.toInt.toNat)) (by simp) (by decide)).trans rfl))))
                    have q148 : (gV τ139 26 0 (a1.toInt.toNat)).toInt = (gV σ 26 0 (a1.toInt.toNat)).toInt := congrArg Int32.toInt (show (gV τ139 26 0 (a1.toInt.toNat)) = (gV σ 26 0 (a1.toInt.toNat)) from (show gV τ139 26 0 (a1.toInt.toNat) = (gV σ 26 0 (a1.toInt.toNat)) from (f141.1 26 0 ((a1.toInt.toNat)) (by simp) (by decide)).trans (show gV τ82 26 0 (a1.toInt.toNat) = (gV σ 26 0 (a1.toInt.toNat)) from (f84.1 26 0 ((a1.toInt.toNat)) (by simp) (by decide)).trans (show gV τ66 26 0 (a1.toInt.toNat) = (gV σ 26 0 (a1.toInt.toNat)) from (f68.1 26 0 ((a1.toInt.toNat)) (by simp) (by decide)).trans rfl))))
                    have q149 : (gV τ139 27 0 (a1.toInt.toNat)).toInt = (gV σ 27 0 (a1.toInt.toNat)).toInt := congrArg Int32.toInt (show (gV τ139 27 0 (a1.toInt.toNat)) = (gV σ 27 0 (a1.toInt.toNat)) from (show gV τ139 27 0 (a1.toInt.toNat) = (gV σ 27 0 (a1.toInt.toNat)) from (f141.1 27 0 ((a1.toInt.toNat)) (by simp) (by decide)).trans (show gV τ82 27 0 (a1.toInt.toNat) = (gV σ 27 0 (a1.toInt.toNat)) from (f84.1 27 0 ((a1.toInt.toNat)) (by simp) (by decide)).trans (show gV τ66 27 0 (a1.toInt.toNat) = (gV σ 27 0 (a1.toInt.toNat)) from (f68.1 27 0 ((a1.toInt.toNat)) (by simp) (by decide)).trans rfl))))
                    have q150 := kt_2
                    show MW p l e _ s m args below meth c _ 7 G 0 0 116 [some (.ref (G.1 22 0)), some (.int a1), some (.int a2), some (.int a3), some (.int a4), some (.int a5), none] [.int x142] τ139
                    exact m_iret C hr hlk (by decide) (by decide) dX12_copy_116 ⟨_, rfl, i140, g144, (iv_wk b143 (by decide)), (Or.inr (Or.inr (Or.inr (Or.inl ⟨by omega, by omega, by omega, by omega, by omega, by omega⟩))))⟩
                  · have f151 : 0 ≤ a4.toInt := by
                      have q : _ := c136
                      simp only [ti_nle, ti_nlt, ti_le, ti_lt, ti_eq, ti_ne, Classical.not_not, kt_0] at q
                      omega
                    have b152 : IV a4 0 2147483647 := ⟨by have q1 := kc_0; have q2 := (iv_any a4); omega, by have q1 := kc_0; have q2 := (iv_any a4); omega⟩
                    refine m_iload C dX12_copy_71 rfl ?_
                    refine m_if_lt (tgt := 111) C dX12_copy_73 (by decide) (fun c153 => ?_) (fun c153 => ?_)
                    · have f154 : a5.toInt < 0 := by
                        have q : _ := c153
                        simp only [ti_nle, ti_nlt, ti_le, ti_lt, ti_eq, ti_ne, Classical.not_not, kt_0] at q
                        omega
                      have b155 : IV a5 (-2147483648) (-1) := ⟨by have q1 := (iv_any a5); have q2 := kc_0; omega, by have q1 := (iv_any a5); have q2 := kc_0; omega⟩
                      refine m_aload_n C dX12_copy_111 rfl rfl ?_
                      refine m_iconst (v := 2) C dX12_copy_112 (by decide) ?_
                      refine m_callV (n := 1) (ci := 11) (st := []) C (c_X12_met l G τ82 (2) i83 (iv_wk kc_2 (by decide))) (by decide) (by decide) rfl rfl rfl q4_196 q4_193 q4_195 q0_26 q1_7 (by decide +kernel) rfl (by decide) (by decide) rfl (Nat.le_of_ble_eq_true rfl) dX12_copy_113 ?_
                      rintro _ τ156 ⟨x159, rfl, i157, f158, b160, h162⟩
                      have g161 : Fr MS_X12_copyE AS_X12_copyE σ τ156 := Fr.call (g87) f158 (by decide)
                      have q163 : (gV τ156 26 0 (a3.toInt.toNat)).toInt = (gV σ 26 0 (a3.toInt.toNat)).toInt := congrArg Int32.toInt (show (gV τ156 26 0 (a3.toInt.toNat)) = (gV σ 26 0 (a3.toInt.toNat)) from (show gV τ156 26 0 (a3.toInt.toNat) = (gV σ 26 0 (a3.toInt.toNat)) from (f158.1 26 0 ((a3.toInt.toNat)) (by simp) (by decide)).trans (show gV τ82 26 0 (a3.toInt.toNat) = (gV σ 26 0 (a3.toInt.toNat)) from (f84.1 26 0 ((a3.toInt.toNat)) (by simp) (by decide)).trans (show gV τ66 26 0 (a3.toInt.toNat) = (gV σ 26 0 (a3.toInt.toNat)) from (f68.1 26 0 ((a3.toInt.toNat)) (by simp) (by decide)).trans rfl))))
                      have q164 : (gV τ156 27 0 (a3.toInt.toNat)).toInt = (gV σ 27 0 (a3.toInt.toNat)).toInt := congrArg Int32.toInt (show (gV τ156 27 0 (a3.toInt.toNat)) = (gV σ 27 0 (a3.toInt.toNat)) from (show gV τ156 27 0 (a3.toInt.toNat) = (gV σ 27 0 (a3.toInt.toNat)) from (f158.1 27 0 ((a3.toInt.toNat)) (by simp) (by decide)).trans (show gV τ82 27 0 (a3.toInt.toNat) = (gV σ 27 0 (a3.toInt.toNat)) from (f84.1 27 0 ((a3.toInt.toNat)) (by simp) (by decide)).trans (show gV τ66 27 0 (a3.toInt.toNat) = (gV σ 27 0 (a3.toInt.toNat)) from (f68.1 27 0 ((a3.toInt.toNat)) (by simp) (by decide)).trans rfl))))
                      have q165 : (gV τ156 26 0 (a1.toInt.toNat)).toInt = (gV σ 26 0 (a1.toInt.toNat)).toInt := congrArg Int32.toInt (show (gV τ156 26 0 (a1.toInt.toNat)) = (gV σ 26 0 (a1.toInt.toNat)) from (show gV τ156 26 0 (a1.toInt.toNat) = (gV σ 26 0 (a1.toInt.toNat)) from (f158.1 26 0 ((a1.toInt.toNat)) (by simp) (by decide)).trans (show gV τ82 26 0 (a1.toInt.toNat) = (gV σ 26 0 (a1.toInt.toNat)) from (f84.1 26 0 ((a1.toInt.toNat)) (by simp) (by decide)).trans (show gV τ66 26 0 (a1.toInt.toNat) = (gV σ 26 0 (a1.toInt.toNat)) from (f68.1 26 0 ((a1.toInt.toNat)) (by simp) (by decide)).trans rfl))))
                      have q166 : (gV τ156 27 0 (a1.toInt.toNat)).toInt = (gV σ 27 0 (a1.toInt.toNat)).toInt := congrArg Int32.toInt (show (gV τ156 27 0 (a1.toInt.toNat)) = (gV σ 27 0 (a1.toInt.toNat)) from (show gV τ156 27 0 (a1.toInt.toNat) = (gV σ 27 0 (a1.toInt.toNat)) from (f158.1 27 0 ((a1.toInt.toNat)) (by simp) (by decide)).trans (show gV τ82 27 0 (a1.toInt.toNat) = (gV σ 27 0 (a1.toInt.toNat)) from (f84.1 27 0 ((a1.toInt.toNat)) (by simp) (by decide)).trans (show gV τ66 27 0 (a1.toInt.toNat) = (gV σ 27 0 (a1.toInt.toNat)) from (f68.1 27 0 ((a1.toInt.toNat)) (by simp) (by decide)).trans rfl))))
                      have q167 := kt_2
                      show MW p l e _ s m args below meth c _ 7 G 0 0 116 [some (.ref (G.1 22 0)), some (.int a1), some (.int a2), some (.int a3), some (.int a4), some (.int a5), none] [.int x159] τ156
                      exact m_iret C hr hlk (by decide) (by decide) dX12_copy_116 ⟨_, rfl, i157, g161, (iv_wk b160 (by decide)), (Or.inr (Or.inr (Or.inr (Or.inl ⟨by omega, by omega, by omega, by omega, by omega, by omega⟩))))⟩
                    · have f168 : 0 ≤ a5.toInt := by
                        have q : _ := c153
                        simp only [ti_nle, ti_nlt, ti_le, ti_lt, ti_eq, ti_ne, Classical.not_not, kt_0] at q
                        omega
                      have b169 : IV a5 0 2147483647 := ⟨by have q1 := kc_0; have q2 := (iv_any a5); omega, by have q1 := kc_0; have q2 := (iv_any a5); omega⟩
                      refine m_iload_n C dX12_copy_76 rfl rfl ?_
                      refine m_i2l C dX12_copy_77 ?_
                      refine m_iload C dX12_copy_78 rfl ?_
                      refine m_i2l C dX12_copy_80 ?_
                      refine m_ladd C dX12_copy_81 ?_
                      refine m_aload_n C dX12_copy_82 rfl rfl ?_
                      refine g_22_4 C q4_120 dX12_copy_83 ?_
                      refine m_iload_n C dX12_copy_86 rfl rfl ?_
                      refine al_27 C b81 (by decide) rfl dX12_copy_87 ?_
                      refine m_eqs (w := (gV σ 27 0 (a1.toInt.toNat))) (show gV τ82 27 0 (a1.toInt.toNat) = (gV σ 27 0 (a1.toInt.toNat)) from (f84.1 27 0 ((a1.toInt.toNat)) (by simp) (by decide)).trans (show gV τ66 27 0 (a1.toInt.toNat) = (gV σ 27 0 (a1.toInt.toNat)) from (f68.1 27 0 ((a1.toInt.toNat)) (by simp) (by decide)).trans rfl)) ?_
                      refine m_i2l C dX12_copy_88 ?_
                      refine m_lcmp C dX12_copy_89 ?_
                      refine m_topi (fun x170 ex170 => ?_)
                      have b171 : IV x170 (-1) 1 := by rw [ex170]; rcases lgc ((a2 : Int32).toInt64 + (a5 : Int32).toInt64) ((gV σ 27 0 (a1.toInt.toNat)) : Int32).toInt64 with q | q | q <;> omega
                      have f172 := lgc ((a2 : Int32).toInt64 + (a5 : Int32).toInt64) ((gV σ 27 0 (a1.toInt.toNat)) : Int32).toInt64
                      rw [← ex170] at f172
                      have f173 := tl_add a2 a5
                      have f174 := tl_i (gV σ 27 0 (a1.toInt.toNat))
                      refine m_if_gt (tgt := 111) C dX12_copy_90 (by decide) (fun c175 => ?_) (fun c175 => ?_)
                      · have f176 : 0 < x170.toInt := by
                          have q : _ := c175
                          simp only [ti_nle, ti_nlt, ti_le, ti_lt, ti_eq, ti_ne, Classical.not_not, kt_0] at q
                          omega
                        have b177 : IV x170 1 1 := ⟨by have q1 := kc_0; have q2 := b171; omega, by have q1 := kc_0; have q2 := b171; omega⟩
                        refine m_aload_n C dX12_copy_111 rfl rfl ?_
                        refine m_iconst (v := 2) C dX12_copy_112 (by decide) ?_
                        refine m_callV (n := 1) (ci := 11) (st := []) C (c_X12_met l G τ82 (2) i83 (iv_wk kc_2 (by decide))) (by decide) (by decide) rfl rfl rfl q4_196 q4_193 q4_195 q0_26 q1_7 (by decide +kernel) rfl (by decide) (by decide) rfl (Nat.le_of_ble_eq_true rfl) dX12_copy_113 ?_
                        rintro _ τ178 ⟨x181, rfl, i179, f180, b182, h184⟩
                        have g183 : Fr MS_X12_copyE AS_X12_copyE σ τ178 := Fr.call (g87) f180 (by decide)
                        have q185 : (gV τ178 26 0 (a3.toInt.toNat)).toInt = (gV σ 26 0 (a3.toInt.toNat)).toInt := congrArg Int32.toInt (show (gV τ178 26 0 (a3.toInt.toNat)) = (gV σ 26 0 (a3.toInt.toNat)) from (show gV τ178 26 0 (a3.toInt.toNat) = (gV σ 26 0 (a3.toInt.toNat)) from (f180.1 26 0 ((a3.toInt.toNat)) (by simp) (by decide)).trans (show gV τ82 26 0 (a3.toInt.toNat) = (gV σ 26 0 (a3.toInt.toNat)) from (f84.1 26 0 ((a3.toInt.toNat)) (by simp) (by decide)).trans (show gV τ66 26 0 (a3.toInt.toNat) = (gV σ 26 0 (a3.toInt.toNat)) from (f68.1 26 0 ((a3.toInt.toNat)) (by simp) (by decide)).trans rfl))))
                        have q186 : (gV τ178 27 0 (a3.toInt.toNat)).toInt = (gV σ 27 0 (a3.toInt.toNat)).toInt := congrArg Int32.toInt (show (gV τ178 27 0 (a3.toInt.toNat)) = (gV σ 27 0 (a3.toInt.toNat)) from (show gV τ178 27 0 (a3.toInt.toNat) = (gV σ 27 0 (a3.toInt.toNat)) from (f180.1 27 0 ((a3.toInt.toNat)) (by simp) (by decide)).trans (show gV τ82 27 0 (a3.toInt.toNat) = (gV σ 27 0 (a3.toInt.toNat)) from (f84.1 27 0 ((a3.toInt.toNat)) (by simp) (by decide)).trans (show gV τ66 27 0 (a3.toInt.toNat) = (gV σ 27 0 (a3.toInt.toNat)) from (f68.1 27 0 ((a3.toInt.toNat)) (by simp) (by decide)).trans rfl))))
                        have q187 : (gV τ178 26 0 (a1.toInt.toNat)).toInt = (gV σ 26 0 (a1.toInt.toNat)).toInt := congrArg Int32.toInt (show (gV τ178 26 0 (a1.toInt.toNat)) = (gV σ 26 0 (a1.toInt.toNat)) from (show gV τ178 26 0 (a1.toInt.toNat) = (gV σ 26 0 (a1.toInt.toNat)) from (f180.1 26 0 ((a1.toInt.toNat)) (by simp) (by decide)).trans (show gV τ82 26 0 (a1.toInt.toNat) = (gV σ 26 0 (a1.toInt.toNat)) from (f84.1 26 0 ((a1.toInt.toNat)) (by simp) (by decide)).trans (show gV τ66 26 0 (a1.toInt.toNat) = (gV σ 26 0 (a1.toInt.toNat)) from (f68.1 26 0 ((a1.toInt.toNat)) (by simp) (by decide)).trans rfl))))
                        have q188 : (gV τ178 27 0 (a1.toInt.toNat)).toInt = (gV σ 27 0 (a1.toInt.toNat)).toInt := congrArg Int32.toInt (show (gV τ178 27 0 (a1.toInt.toNat)) = (gV σ 27 0 (a1.toInt.toNat)) from (show gV τ178 27 0 (a1.toInt.toNat) = (gV σ 27 0 (a1.toInt.toNat)) from (f180.1 27 0 ((a1.toInt.toNat)) (by simp) (by decide)).trans (show gV τ82 27 0 (a1.toInt.toNat) = (gV σ 27 0 (a1.toInt.toNat)) from (f84.1 27 0 ((a1.toInt.toNat)) (by simp) (by decide)).trans (show gV τ66 27 0 (a1.toInt.toNat) = (gV σ 27 0 (a1.toInt.toNat)) from (f68.1 27 0 ((a1.toInt.toNat)) (by simp) (by decide)).trans rfl))))
                        have q189 := kt_2
                        show MW p l e _ s m args below meth c _ 7 G 0 0 116 [some (.ref (G.1 22 0)), some (.int a1), some (.int a2), some (.int a3), some (.int a4), some (.int a5), none] [.int x181] τ178
                        exact m_iret C hr hlk (by decide) (by decide) dX12_copy_116 ⟨_, rfl, i179, g183, (iv_wk b182 (by decide)), (Or.inr (Or.inr (Or.inr (Or.inl ⟨by omega, by omega, by omega, by omega, by omega, by omega⟩))))⟩
                      · have f190 : x170.toInt ≤ 0 := by
                          have q : _ := c175
                          simp only [ti_nle, ti_nlt, ti_le, ti_lt, ti_eq, ti_ne, Classical.not_not, kt_0] at q
                          omega
                        have b191 : IV x170 (-1) 0 := ⟨by have q1 := b171; have q2 := kc_0; omega, by have q1 := b171; have q2 := kc_0; omega⟩
                        refine m_iload C dX12_copy_93 rfl ?_
                        refine m_i2l C dX12_copy_95 ?_
                        refine m_iload C dX12_copy_96 rfl ?_
                        refine m_i2l C dX12_copy_98 ?_
                        refine m_ladd C dX12_copy_99 ?_
                        refine m_aload_n C dX12_copy_100 rfl rfl ?_
                        refine g_22_4 C q4_120 dX12_copy_101 ?_
                        refine m_iload_n C dX12_copy_104 rfl rfl ?_
                        refine al_27 C b96 (by decide) rfl dX12_copy_105 ?_
                        refine m_eqs (w := (gV σ 27 0 (a3.toInt.toNat))) (show gV τ82 27 0 (a3.toInt.toNat) = (gV σ 27 0 (a3.toInt.toNat)) from (f84.1 27 0 ((a3.toInt.toNat)) (by simp) (by decide)).trans (show gV τ66 27 0 (a3.toInt.toNat) = (gV σ 27 0 (a3.toInt.toNat)) from (f68.1 27 0 ((a3.toInt.toNat)) (by simp) (by decide)).trans rfl)) ?_
                        refine m_i2l C dX12_copy_106 ?_
                        refine m_lcmp C dX12_copy_107 ?_
                        refine m_topi (fun x192 ex192 => ?_)
                        have b193 : IV x192 (-1) 1 := by rw [ex192]; rcases lgc ((a4 : Int32).toInt64 + (a5 : Int32).toInt64) ((gV σ 27 0 (a3.toInt.toNat)) : Int32).toInt64 with q | q | q <;> omega
                        have f194 := lgc ((a4 : Int32).toInt64 + (a5 : Int32).toInt64) ((gV σ 27 0 (a3.toInt.toNat)) : Int32).toInt64
                        rw [← ex192] at f194
                        have f195 := tl_add a4 a5
                        have f196 := tl_i (gV σ 27 0 (a3.toInt.toNat))
                        refine m_if_le (tgt := 117) C dX12_copy_108 (by decide) (fun c197 => ?_) (fun c197 => ?_)
                        · have f198 : x192.toInt ≤ 0 := by
                            have q : _ := c197
                            simp only [ti_nle, ti_nlt, ti_le, ti_lt, ti_eq, ti_ne, Classical.not_not, kt_0] at q
                            omega
                          have b199 : IV x192 (-1) 0 := ⟨by have q1 := b193; have q2 := kc_0; omega, by have q1 := b193; have q2 := kc_0; omega⟩
                          have b200 : IV a5 0 40 := ⟨by have q1 := b169; omega, by have q1 := b169; omega⟩
                          have b201 : IV a2 0 40 := ⟨by have q1 := b135; omega, by have q1 := b135; omega⟩
                          have b202 : IV a4 0 40 := ⟨by have q1 := b152; omega, by have q1 := b152; omega⟩
                          refine m_iconst (v := 0) C dX12_copy_117 (by decide) ?_
                          refine m_istore (L1 := [some (.ref (G.1 22 0)), some (.int a1), some (.int a2), some (.int a3), some (.int a4), some (.int a5), some (.int 0)]) C dX12_copy_118 (by decide) rfl rfl ?_
                          exact J120 ((40 - (0 : Int32).toInt).toNat + 1) τ82 0 i83 g87 b81 b201 b96 b202 b200 (iv_wk kc_0 (by decide)) (by omega) (by omega) (Nat.lt_succ_self _)
                        · have f203 : 0 < x192.toInt := by
                            have q : _ := c197
                            simp only [ti_nle, ti_nlt, ti_le, ti_lt, ti_eq, ti_ne, Classical.not_not, kt_0] at q
                            omega
                          have b204 : IV x192 1 1 := ⟨by have q1 := kc_0; have q2 := b193; omega, by have q1 := kc_0; have q2 := b193; omega⟩
                          refine m_aload_n C dX12_copy_111 rfl rfl ?_
                          refine m_iconst (v := 2) C dX12_copy_112 (by decide) ?_
                          refine m_callV (n := 1) (ci := 11) (st := []) C (c_X12_met l G τ82 (2) i83 (iv_wk kc_2 (by decide))) (by decide) (by decide) rfl rfl rfl q4_196 q4_193 q4_195 q0_26 q1_7 (by decide +kernel) rfl (by decide) (by decide) rfl (Nat.le_of_ble_eq_true rfl) dX12_copy_113 ?_
                          rintro _ τ205 ⟨x208, rfl, i206, f207, b209, h211⟩
                          have g210 : Fr MS_X12_copyE AS_X12_copyE σ τ205 := Fr.call (g87) f207 (by decide)
                          have q212 : (gV τ205 26 0 (a3.toInt.toNat)).toInt = (gV σ 26 0 (a3.toInt.toNat)).toInt := congrArg Int32.toInt (show (gV τ205 26 0 (a3.toInt.toNat)) = (gV σ 26 0 (a3.toInt.toNat)) from (show gV τ205 26 0 (a3.toInt.toNat) = (gV σ 26 0 (a3.toInt.toNat)) from (f207.1 26 0 ((a3.toInt.toNat)) (by simp) (by decide)).trans (show gV τ82 26 0 (a3.toInt.toNat) = (gV σ 26 0 (a3.toInt.toNat)) from (f84.1 26 0 ((a3.toInt.toNat)) (by simp) (by decide)).trans (show gV τ66 26 0 (a3.toInt.toNat) = (gV σ 26 0 (a3.toInt.toNat)) from (f68.1 26 0 ((a3.toInt.toNat)) (by simp) (by decide)).trans rfl))))
                          have q213 : (gV τ205 27 0 (a3.toInt.toNat)).toInt = (gV σ 27 0 (a3.toInt.toNat)).toInt := congrArg Int32.toInt (show (gV τ205 27 0 (a3.toInt.toNat)) = (gV σ 27 0 (a3.toInt.toNat)) from (show gV τ205 27 0 (a3.toInt.toNat) = (gV σ 27 0 (a3.toInt.toNat)) from (f207.1 27 0 ((a3.toInt.toNat)) (by simp) (by decide)).trans (show gV τ82 27 0 (a3.toInt.toNat) = (gV σ 27 0 (a3.toInt.toNat)) from (f84.1 27 0 ((a3.toInt.toNat)) (by simp) (by decide)).trans (show gV τ66 27 0 (a3.toInt.toNat) = (gV σ 27 0 (a3.toInt.toNat)) from (f68.1 27 0 ((a3.toInt.toNat)) (by simp) (by decide)).trans rfl))))
                          have q214 : (gV τ205 26 0 (a1.toInt.toNat)).toInt = (gV σ 26 0 (a1.toInt.toNat)).toInt := congrArg Int32.toInt (show (gV τ205 26 0 (a1.toInt.toNat)) = (gV σ 26 0 (a1.toInt.toNat)) from (show gV τ205 26 0 (a1.toInt.toNat) = (gV σ 26 0 (a1.toInt.toNat)) from (f207.1 26 0 ((a1.toInt.toNat)) (by simp) (by decide)).trans (show gV τ82 26 0 (a1.toInt.toNat) = (gV σ 26 0 (a1.toInt.toNat)) from (f84.1 26 0 ((a1.toInt.toNat)) (by simp) (by decide)).trans (show gV τ66 26 0 (a1.toInt.toNat) = (gV σ 26 0 (a1.toInt.toNat)) from (f68.1 26 0 ((a1.toInt.toNat)) (by simp) (by decide)).trans rfl))))
                          have q215 : (gV τ205 27 0 (a1.toInt.toNat)).toInt = (gV σ 27 0 (a1.toInt.toNat)).toInt := congrArg Int32.toInt (show (gV τ205 27 0 (a1.toInt.toNat)) = (gV σ 27 0 (a1.toInt.toNat)) from (show gV τ205 27 0 (a1.toInt.toNat) = (gV σ 27 0 (a1.toInt.toNat)) from (f207.1 27 0 ((a1.toInt.toNat)) (by simp) (by decide)).trans (show gV τ82 27 0 (a1.toInt.toNat) = (gV σ 27 0 (a1.toInt.toNat)) from (f84.1 27 0 ((a1.toInt.toNat)) (by simp) (by decide)).trans (show gV τ66 27 0 (a1.toInt.toNat) = (gV σ 27 0 (a1.toInt.toNat)) from (f68.1 27 0 ((a1.toInt.toNat)) (by simp) (by decide)).trans rfl))))
                          have q216 := kt_2
                          show MW p l e _ s m args below meth c _ 7 G 0 0 116 [some (.ref (G.1 22 0)), some (.int a1), some (.int a2), some (.int a3), some (.int a4), some (.int a5), none] [.int x208] τ205
                          exact m_iret C hr hlk (by decide) (by decide) dX12_copy_116 ⟨_, rfl, i206, g210, (iv_wk b209 (by decide)), (Or.inr (Or.inr (Or.inr (Or.inl ⟨by omega, by omega, by omega, by omega, by omega, by omega⟩))))⟩
              · have f217 : (gV σ 26 0 (a1.toInt.toNat)).toInt ≠ (gV σ 26 0 (a3.toInt.toNat)).toInt := by
                  have q : _ := c117
                  simp only [ti_nle, ti_nlt, ti_le, ti_lt, ti_eq, ti_ne, Classical.not_not] at q
                  omega
                refine m_aload_n C dX12_copy_56 rfl rfl ?_
                refine m_iconst (v := 5) C dX12_copy_57 (by decide) ?_
                refine m_callV (n := 1) (ci := 11) (st := []) C (c_X12_met l G τ82 (5) i83 (iv_wk kc_5 (by decide))) (by decide) (by decide) rfl rfl rfl q4_196 q4_193 q4_195 q0_26 q1_7 (by decide +kernel) rfl (by decide) (by decide) rfl (Nat.le_of_ble_eq_true rfl) dX12_copy_58 ?_
                rintro _ τ218 ⟨x221, rfl, i219, f220, b222, h224⟩
                have g223 : Fr MS_X12_copyE AS_X12_copyE σ τ218 := Fr.call (g87) f220 (by decide)
                have q225 : (gV τ218 26 0 (a3.toInt.toNat)).toInt = (gV σ 26 0 (a3.toInt.toNat)).toInt := congrArg Int32.toInt (show (gV τ218 26 0 (a3.toInt.toNat)) = (gV σ 26 0 (a3.toInt.toNat)) from (show gV τ218 26 0 (a3.toInt.toNat) = (gV σ 26 0 (a3.toInt.toNat)) from (f220.1 26 0 ((a3.toInt.toNat)) (by simp) (by decide)).trans (show gV τ82 26 0 (a3.toInt.toNat) = (gV σ 26 0 (a3.toInt.toNat)) from (f84.1 26 0 ((a3.toInt.toNat)) (by simp) (by decide)).trans (show gV τ66 26 0 (a3.toInt.toNat) = (gV σ 26 0 (a3.toInt.toNat)) from (f68.1 26 0 ((a3.toInt.toNat)) (by simp) (by decide)).trans rfl))))
                have q226 : (gV τ218 27 0 (a3.toInt.toNat)).toInt = (gV σ 27 0 (a3.toInt.toNat)).toInt := congrArg Int32.toInt (show (gV τ218 27 0 (a3.toInt.toNat)) = (gV σ 27 0 (a3.toInt.toNat)) from (show gV τ218 27 0 (a3.toInt.toNat) = (gV σ 27 0 (a3.toInt.toNat)) from (f220.1 27 0 ((a3.toInt.toNat)) (by simp) (by decide)).trans (show gV τ82 27 0 (a3.toInt.toNat) = (gV σ 27 0 (a3.toInt.toNat)) from (f84.1 27 0 ((a3.toInt.toNat)) (by simp) (by decide)).trans (show gV τ66 27 0 (a3.toInt.toNat) = (gV σ 27 0 (a3.toInt.toNat)) from (f68.1 27 0 ((a3.toInt.toNat)) (by simp) (by decide)).trans rfl))))
                have q227 : (gV τ218 26 0 (a1.toInt.toNat)).toInt = (gV σ 26 0 (a1.toInt.toNat)).toInt := congrArg Int32.toInt (show (gV τ218 26 0 (a1.toInt.toNat)) = (gV σ 26 0 (a1.toInt.toNat)) from (show gV τ218 26 0 (a1.toInt.toNat) = (gV σ 26 0 (a1.toInt.toNat)) from (f220.1 26 0 ((a1.toInt.toNat)) (by simp) (by decide)).trans (show gV τ82 26 0 (a1.toInt.toNat) = (gV σ 26 0 (a1.toInt.toNat)) from (f84.1 26 0 ((a1.toInt.toNat)) (by simp) (by decide)).trans (show gV τ66 26 0 (a1.toInt.toNat) = (gV σ 26 0 (a1.toInt.toNat)) from (f68.1 26 0 ((a1.toInt.toNat)) (by simp) (by decide)).trans rfl))))
                have q228 : (gV τ218 27 0 (a1.toInt.toNat)).toInt = (gV σ 27 0 (a1.toInt.toNat)).toInt := congrArg Int32.toInt (show (gV τ218 27 0 (a1.toInt.toNat)) = (gV σ 27 0 (a1.toInt.toNat)) from (show gV τ218 27 0 (a1.toInt.toNat) = (gV σ 27 0 (a1.toInt.toNat)) from (f220.1 27 0 ((a1.toInt.toNat)) (by simp) (by decide)).trans (show gV τ82 27 0 (a1.toInt.toNat) = (gV σ 27 0 (a1.toInt.toNat)) from (f84.1 27 0 ((a1.toInt.toNat)) (by simp) (by decide)).trans (show gV τ66 27 0 (a1.toInt.toNat) = (gV σ 27 0 (a1.toInt.toNat)) from (f68.1 27 0 ((a1.toInt.toNat)) (by simp) (by decide)).trans rfl))))
                have q229 := kt_5
                show MW p l e _ s m args below meth c _ 7 G 0 0 61 [some (.ref (G.1 22 0)), some (.int a1), some (.int a2), some (.int a3), some (.int a4), some (.int a5), none] [.int x221] τ218
                exact m_iret C hr hlk (by decide) (by decide) dX12_copy_61 ⟨_, rfl, i219, g223, (iv_wk b222 (by decide)), (Or.inr (Or.inr (Or.inl ⟨by omega, by omega, by omega, by omega, by omega⟩)))⟩
            · have f230 : (gV σ 26 0 (a3.toInt.toNat)).toInt < 0 := by
                have q : _ := c114
                simp only [ti_nle, ti_nlt, ti_le, ti_lt, ti_eq, ti_ne, Classical.not_not, kt_0] at q
                omega
              have b231 : IV (gV σ 26 0 (a3.toInt.toNat)) (-2147483648) (-1) := ⟨by have q1 := (iv_any (gV σ 26 0 (a3.toInt.toNat))); have q2 := kc_0; omega, by have q1 := (iv_any (gV σ 26 0 (a3.toInt.toNat))); have q2 := kc_0; omega⟩
              refine m_aload_n C dX12_copy_35 rfl rfl ?_
              refine m_iconst (v := 1) C dX12_copy_36 (by decide) ?_
              refine m_callV (n := 1) (ci := 11) (st := []) C (c_X12_met l G τ82 (1) i83 (iv_wk kc_1 (by decide))) (by decide) (by decide) rfl rfl rfl q4_196 q4_193 q4_195 q0_26 q1_7 (by decide +kernel) rfl (by decide) (by decide) rfl (Nat.le_of_ble_eq_true rfl) dX12_copy_37 ?_
              rintro _ τ232 ⟨x235, rfl, i233, f234, b236, h238⟩
              have g237 : Fr MS_X12_copyE AS_X12_copyE σ τ232 := Fr.call (g87) f234 (by decide)
              have q239 : (gV τ232 26 0 (a3.toInt.toNat)).toInt = (gV σ 26 0 (a3.toInt.toNat)).toInt := congrArg Int32.toInt (show (gV τ232 26 0 (a3.toInt.toNat)) = (gV σ 26 0 (a3.toInt.toNat)) from (show gV τ232 26 0 (a3.toInt.toNat) = (gV σ 26 0 (a3.toInt.toNat)) from (f234.1 26 0 ((a3.toInt.toNat)) (by simp) (by decide)).trans (show gV τ82 26 0 (a3.toInt.toNat) = (gV σ 26 0 (a3.toInt.toNat)) from (f84.1 26 0 ((a3.toInt.toNat)) (by simp) (by decide)).trans (show gV τ66 26 0 (a3.toInt.toNat) = (gV σ 26 0 (a3.toInt.toNat)) from (f68.1 26 0 ((a3.toInt.toNat)) (by simp) (by decide)).trans rfl))))
              have q240 : (gV τ232 27 0 (a3.toInt.toNat)).toInt = (gV σ 27 0 (a3.toInt.toNat)).toInt := congrArg Int32.toInt (show (gV τ232 27 0 (a3.toInt.toNat)) = (gV σ 27 0 (a3.toInt.toNat)) from (show gV τ232 27 0 (a3.toInt.toNat) = (gV σ 27 0 (a3.toInt.toNat)) from (f234.1 27 0 ((a3.toInt.toNat)) (by simp) (by decide)).trans (show gV τ82 27 0 (a3.toInt.toNat) = (gV σ 27 0 (a3.toInt.toNat)) from (f84.1 27 0 ((a3.toInt.toNat)) (by simp) (by decide)).trans (show gV τ66 27 0 (a3.toInt.toNat) = (gV σ 27 0 (a3.toInt.toNat)) from (f68.1 27 0 ((a3.toInt.toNat)) (by simp) (by decide)).trans rfl))))
              have q241 : (gV τ232 26 0 (a1.toInt.toNat)).toInt = (gV σ 26 0 (a1.toInt.toNat)).toInt := congrArg Int32.toInt (show (gV τ232 26 0 (a1.toInt.toNat)) = (gV σ 26 0 (a1.toInt.toNat)) from (show gV τ232 26 0 (a1.toInt.toNat) = (gV σ 26 0 (a1.toInt.toNat)) from (f234.1 26 0 ((a1.toInt.toNat)) (by simp) (by decide)).trans (show gV τ82 26 0 (a1.toInt.toNat) = (gV σ 26 0 (a1.toInt.toNat)) from (f84.1 26 0 ((a1.toInt.toNat)) (by simp) (by decide)).trans (show gV τ66 26 0 (a1.toInt.toNat) = (gV σ 26 0 (a1.toInt.toNat)) from (f68.1 26 0 ((a1.toInt.toNat)) (by simp) (by decide)).trans rfl))))
              have q242 : (gV τ232 27 0 (a1.toInt.toNat)).toInt = (gV σ 27 0 (a1.toInt.toNat)).toInt := congrArg Int32.toInt (show (gV τ232 27 0 (a1.toInt.toNat)) = (gV σ 27 0 (a1.toInt.toNat)) from (show gV τ232 27 0 (a1.toInt.toNat) = (gV σ 27 0 (a1.toInt.toNat)) from (f234.1 27 0 ((a1.toInt.toNat)) (by simp) (by decide)).trans (show gV τ82 27 0 (a1.toInt.toNat) = (gV σ 27 0 (a1.toInt.toNat)) from (f84.1 27 0 ((a1.toInt.toNat)) (by simp) (by decide)).trans (show gV τ66 27 0 (a1.toInt.toNat) = (gV σ 27 0 (a1.toInt.toNat)) from (f68.1 27 0 ((a1.toInt.toNat)) (by simp) (by decide)).trans rfl))))
              have q243 := kt_1
              show MW p l e _ s m args below meth c _ 7 G 0 0 40 [some (.ref (G.1 22 0)), some (.int a1), some (.int a2), some (.int a3), some (.int a4), some (.int a5), none] [.int x235] τ232
              exact m_iret C hr hlk (by decide) (by decide) dX12_copy_40 ⟨_, rfl, i233, g237, (iv_wk b236 (by decide)), (Or.inr (Or.inl ⟨by omega, by omega, by omega⟩))⟩
        · exfalso
          have q : _ := c94
          simp only [ti_nle, ti_nlt, ti_le, ti_lt, ti_eq, ti_ne, Classical.not_not, kt_0] at q
          have q1 := b93; have q2 := kc_0; omega
      · skip
        have b245 : IV x85 0 0 := ⟨by omega, by omega⟩
        show MW p l e _ s m args below meth c _ 7 G 0 0 11 [some (.ref (G.1 22 0)), some (.int a1), some (.int a2), some (.int a3), some (.int a4), some (.int a5), none] [.int x85] τ82
        refine m_if_ne (tgt := 17) C dX12_copy_11 (by decide) (fun c246 => ?_) (fun c246 => ?_)
        · exfalso
          have q : _ := c246
          simp only [ti_nle, ti_nlt, ti_le, ti_lt, ti_eq, ti_ne, Classical.not_not, kt_0] at q
          have q1 := b245; have q2 := kc_0; omega
        · have f248 : x85.toInt = 0 := by
            have q : _ := c246
            simp only [ti_nle, ti_nlt, ti_le, ti_lt, ti_eq, ti_ne, Classical.not_not, kt_0] at q
            omega
          refine m_ldc (v := (-1000001)) C dX12_copy_14 q4_192 ?_
          exact m_iret C hr hlk (by decide) (by decide) dX12_copy_16 ⟨_, rfl, i83, g87, (iv_wk kc_m1000001 (by decide)), (Or.inl ⟨by have q := kt_m1000001; omega, by have q := kt_m1000001; omega⟩)⟩
  · skip
    have b249 : IV x69 0 0 := ⟨by omega, by omega⟩
    show MW p l e _ s m args below meth c _ 7 G 0 0 4 [some (.ref (G.1 22 0)), some (.int a1), some (.int a2), some (.int a3), some (.int a4), some (.int a5), none] [.int x69] τ66
    refine m_if_eq (tgt := 14) C dX12_copy_4 (by decide) (fun c250 => ?_) (fun c250 => ?_)
    · have f251 : x69.toInt = 0 := by
        have q : _ := c250
        simp only [ti_nle, ti_nlt, ti_le, ti_lt, ti_eq, ti_ne, Classical.not_not, kt_0] at q
        omega
      refine m_ldc (v := (-1000001)) C dX12_copy_14 q4_192 ?_
      exact m_iret C hr hlk (by decide) (by decide) dX12_copy_16 ⟨_, rfl, i67, g71, (iv_wk kc_m1000001 (by decide)), (Or.inl ⟨by have q := kt_m1000001; omega, by have q := kt_m1000001; omega⟩)⟩
    · exfalso
      have q : _ := c250
      simp only [ti_nle, ti_nlt, ti_le, ti_lt, ti_eq, ti_ne, Classical.not_not, kt_0] at q
      have q1 := b249; have q2 := kc_0; omega
