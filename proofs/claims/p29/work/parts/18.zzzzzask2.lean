abbrev MS_X11_askS : List (Nat × Nat) := [(14, 1)]
abbrev AS_X11_askS : List Nat := [15]
set_option maxHeartbeats 4000000 in
set_option maxRecDepth 100000 in
theorem c_X11_askS (l : Launch) (G : Gt) (σ : Sg) (S : Stt) (I : Nat → Stt) (a1 : Int32) (a2 : Int32) (hI : Inv σ) (hCA : CA σ S I) (hSV : StV S) : Mc l G yX11_ask cX11_ask 4 (some .int) 6 127 0 0 [.ref (G.1 0 0), .int a1, .int a2] σ (PI fun r τ => Inv τ ∧ Fr MS_X11_askS AS_X11_askS σ τ ∧ IV r (-2147483648) 2147483647 ∧ ((((a1.toInt < 0 ∨ S.2.1 ≤ a1.toInt) ∨ a2.toInt < 0 ∨ 1 < a2.toInt) ∧ r.toInt = -1000001 ∧ (gV τ 14 0 1 = gV σ 14 0 1 ∧ ∀ i, gV τ 15 0 i = gV σ 15 0 i)) ∨ ((0 ≤ a1.toInt ∧ a1.toInt < S.2.1) ∧ (0 ≤ a2.toInt ∧ a2.toInt ≤ 1) ∧ r.toInt = asV a2.toInt (S.2.2 a1.toInt.toNat).1 ((a1.toInt.toNat) : Int) (S.2.2 (a1.toInt.toNat)).2.1 (S.2.2 (a1.toInt.toNat)).2.2 ∧ TrI 14 1 15 τ (asL a2.toInt (S.2.2 a1.toInt.toNat).1)))) := by
  refine Mc.of (L0 := [some (.ref (G.1 0 0)), some (.int a1), some (.int a2), none]) (by decide) (Nat.le_of_ble_eq_true rfl) rfl ?_
  intro p e s m args below meth c C hr hlk
  have C : Cx p s m args c cX11_ask 4 "LeanTower" := C
  have k0 : (0 : Int32).toInt = 0 := by decide
  have k1 : (1 : Int32).toInt = 1 := by decide
  have u1 : IV (gV σ 14 0 1) 0 16 := hI.1 14 0 1
  refine m_aload_n C dX11_ask_0 rfl rfl ?_
  refine g_0_2 C q1_188 dX11_ask_1 ?_
  refine m_iload_n C dX11_ask_4 rfl rfl ?_
  refine m_callV (n := 1) (ci := 7) (st := []) C (c_X8_whoS l G σ (j := 0) (by decide) (a1) hI ) (by decide) (by decide) rfl rfl rfl q3_114 q3_111 q3_112 q3_113 q1_3 (by decide +kernel) rfl (by decide) (by decide) rfl (Nat.le_of_ble_eq_true rfl) dX11_ask_5 ?_
  rintro _ τ2 ⟨x5, rfl, i3, f4, h8⟩
  have g7 : Fr MS_X11_askS AS_X11_askS σ τ2 := Fr.call (Fr.rf) f4 (by decide)
  have q9 : (gV τ2 14 0 1).toInt = (gV σ 14 0 1).toInt := congrArg Int32.toInt (show (gV τ2 14 0 1) = (gV σ 14 0 1) from (show gV τ2 14 0 1 = (gV σ 14 0 1) from (f4.1 14 0 (1) (by decide) (by decide)).trans rfl))
  rcases h8 with ⟨rfl, x5n⟩ | ⟨x5q, rfl, x5m, x5l, x5h, x5e⟩
  · show MW p l e _ s m args below meth c _ 4 G 0 0 8 [some (.ref (G.1 0 0)), some (.int a1), some (.int a2), none] [.null] τ2
    have q10 := hCA.1.null x5n
    refine m_astore_nN (L1 := [some (.ref (G.1 0 0)), some (.int a1), some (.int a2), some (.null)]) C dX11_ask_8 rfl (by decide) rfl rfl ?_
    refine m_aload_nN C dX11_ask_9 rfl rfl ?_
    refine m_ifnullN (tgt := 22) C dX11_ask_10 (by decide) ?_
    refine m_ldc (v := (-1000001)) C dX11_ask_22 q1_234 ?_
    exact m_iret C hr hlk (by decide) (by decide) dX11_ask_24 ⟨_, rfl, i3, g7, (iv_wk kc_m1000001 (by decide)), (Or.inl ⟨by omega, kt_m1000001, f4.1 14 0 1 (by decide) (by decide), fun i => f4.1 15 0 i (by simp) (by decide)⟩)⟩
  · show MW p l e _ s m args below meth c _ 4 G 0 0 8 [some (.ref (G.1 0 0)), some (.int a1), some (.int a2), none] [.ref x5q] τ2
    obtain ⟨x5u, x5v⟩ := hCA.1.who x5l x5h x5e
    have x5w := x5v.gr (PGr.fr f4 (by decide))
    have b11 : IV a1 0 6 := by have q7 := hCA.1.1; exact ⟨by omega, by omega⟩
    refine m_astore_n (L1 := [some (.ref (G.1 0 0)), some (.int a1), some (.int a2), some (.ref x5q)]) C dX11_ask_8 rfl (by decide) rfl rfl ?_
    refine m_aload_n C dX11_ask_9 rfl rfl ?_
    refine m_ifnull C dX11_ask_10 ?_
    refine m_iload_n C dX11_ask_13 rfl rfl ?_
    refine m_if_lt (tgt := 22) C dX11_ask_14 (by decide) (fun c12 => ?_) (fun c12 => ?_)
    · have f13 : a2.toInt < 0 := by
        have q : _ := c12
        simp only [ti_nle, ti_nlt, ti_le, ti_lt, ti_eq, ti_ne, Classical.not_not, kt_0] at q
        omega
      have b14 : IV a2 (-2147483648) (-1) := ⟨by have q1 := (iv_any a2); have q2 := kc_0; omega, by have q1 := (iv_any a2); have q2 := kc_0; omega⟩
      refine m_ldc (v := (-1000001)) C dX11_ask_22 q1_234 ?_
      exact m_iret C hr hlk (by decide) (by decide) dX11_ask_24 ⟨_, rfl, i3, g7, (iv_wk kc_m1000001 (by decide)), (Or.inl ⟨by omega, kt_m1000001, f4.1 14 0 1 (by decide) (by decide), fun i => f4.1 15 0 i (by simp) (by decide)⟩)⟩
    · have f15 : 0 ≤ a2.toInt := by
        have q : _ := c12
        simp only [ti_nle, ti_nlt, ti_le, ti_lt, ti_eq, ti_ne, Classical.not_not, kt_0] at q
        omega
      have b16 : IV a2 0 2147483647 := ⟨by have q1 := kc_0; have q2 := (iv_any a2); omega, by have q1 := kc_0; have q2 := (iv_any a2); omega⟩
      refine m_iload_n C dX11_ask_17 rfl rfl ?_
      refine m_iconst (v := 1) C dX11_ask_18 (by decide) ?_
      refine m_icmp_le (tgt := 25) C dX11_ask_19 (by decide) (fun c17 => ?_) (fun c17 => ?_)
      · have f18 : a2.toInt ≤ 1 := by
          have q : _ := c17
          simp only [ti_nle, ti_nlt, ti_le, ti_lt, ti_eq, ti_ne, Classical.not_not, kt_1] at q
          omega
        have b19 : IV a2 0 1 := ⟨by have q1 := b16; have q2 := kc_1; omega, by have q1 := b16; have q2 := kc_1; omega⟩
        have v20 : PNb τ2 x5q ((a1.toInt.toNat) : Int) (S.2.2 (a1.toInt.toNat)).2.1 (S.2.2 (a1.toInt.toNat)).2.2 := x5w.nb hSV (by omega) (by omega)
        refine m_aload_n C dX11_ask_25 rfl rfl ?_
        refine g_0_8 C q1_194 dX11_ask_26 ?_
        refine m_iconst (v := 0) C dX11_ask_29 (by decide) ?_
        refine p_14_1 C q1_137 dX11_ask_30 ?_
        refine m_tops (fun τ21 eτ21 => ?_)
        have i22 : Inv τ21 := eτ21 ▸ Inv.put i3 (by decide) (iv_wk kc_0 (by decide))
        have f23 : Fr MS_X11_askS AS_X11_askS σ τ21 := eτ21 ▸ Fr.put (g7) (Or.inl (by decide))
        have v24 : x5q ∈ τ21.2.2.2.1 := by rw [eτ21]; exact x5m
        have v25 : PNb τ21 x5q ((a1.toInt.toNat) : Int) (S.2.2 (a1.toInt.toNat)).2.1 (S.2.2 (a1.toInt.toNat)).2.2 := v20.eq (by rw [eτ21]; rfl)
        have v26 : PeC τ21 x5q (a1.toInt.toNat) (S.2.2 (a1.toInt.toNat)) := x5w.gr (PGr.eq (by rw [eτ21]; rfl))
        refine m_iload_n C dX11_ask_33 rfl rfl ?_
        refine m_if_ne (tgt := 48) C dX11_ask_34 (by decide) (fun c27 => ?_) (fun c27 => ?_)
        · have f28 : a2.toInt ≠ 0 := by
            have q : _ := c27
            simp only [ti_nle, ti_nlt, ti_le, ti_lt, ti_eq, ti_ne, Classical.not_not, kt_0] at q
            omega
          have b29 : IV a2 1 1 := ⟨by have q1 := b19; have q2 := kc_0; omega, by have q1 := b19; have q2 := kc_0; omega⟩
          refine m_aload_n C dX11_ask_48 rfl rfl ?_
          refine m_aload_n C dX11_ask_49 rfl rfl ?_
          refine g_0_8 C q1_194 dX11_ask_50 ?_
          have q36 : (gV τ21 14 0 1).toInt = 0 := (congrArg Int32.toInt (show (gV τ21 14 0 1) = 0 from (show gV τ21 14 0 1 = 0 from gV_put eτ21 (gV_self _ _ _ _ _)))).trans kt_0
          refine v_markS (st := []) C q4_89 i22 v24 v25 (by omega) (by decide) (by decide) (Nat.le_of_ble_eq_true rfl) dX11_ask_53 (fun x33 τ30 i31 f32 h35 => ?_)
          have g34 : Fr MS_X11_askS AS_X11_askS σ τ30 := Fr.call (f23) f32 (by decide)
          have v37 : x5q ∈ τ30.2.2.2.1 := by rw [f32.2.2 (by decide)]; exact v24
          have v38 : PNb τ30 x5q ((a1.toInt.toNat) : Int) (S.2.2 (a1.toInt.toNat)).2.1 (S.2.2 (a1.toInt.toNat)).2.2 := v25.eq (f32.2.2 (by decide))
          have v39 : PeC τ30 x5q (a1.toInt.toNat) (S.2.2 (a1.toInt.toNat)) := v26.gr (PGr.fr f32 (by decide))
          have u40 : IV (gV τ30 14 0 1) 0 16 := i31.1 14 0 1
          rw [v26.2.1] at h35
          show MW p l e _ s m args below meth c _ 4 G 0 0 56 [some (.ref (G.1 0 0)), some (.int a1), some (.int a2), some (.ref x5q)] [.int x33] τ30
          exact m_iret C hr hlk (by decide) (by decide) dX11_ask_56 ⟨_, rfl, i31, g34, (iv_any x33), (Or.inr ⟨by omega, by omega, by rw [show a2.toInt = 1 by omega, asV_1]; exact h35.1, by rw [show a2.toInt = 1 by omega, asL_1]; exact h35.2.is (by omega)⟩)⟩
        · have f41 : a2.toInt = 0 := by
            have q : _ := c27
            simp only [ti_nle, ti_nlt, ti_le, ti_lt, ti_eq, ti_ne, Classical.not_not, kt_0] at q
            omega
          have b42 : IV a2 0 0 := ⟨by have q1 := b19; have q2 := kc_0; omega, by have q1 := b19; have q2 := kc_0; omega⟩
          refine m_aload_n C dX11_ask_37 rfl rfl ?_
          refine m_aload_n C dX11_ask_38 rfl rfl ?_
          refine g_0_8 C q1_194 dX11_ask_39 ?_
          have q49 : (gV τ21 14 0 1).toInt = 0 := (congrArg Int32.toInt (show (gV τ21 14 0 1) = 0 from (show gV τ21 14 0 1 = 0 from gV_put eτ21 (gV_self _ _ _ _ _)))).trans kt_0
          refine v_sizeS (st := []) C q4_43 i22 v24 v25 (by omega) (by decide) (by decide) (Nat.le_of_ble_eq_true rfl) dX11_ask_42 (fun x46 τ43 i44 f45 h48 => ?_)
          have g47 : Fr MS_X11_askS AS_X11_askS σ τ43 := Fr.call (f23) f45 (by decide)
          have v50 : x5q ∈ τ43.2.2.2.1 := by rw [f45.2.2 (by decide)]; exact v24
          have v51 : PNb τ43 x5q ((a1.toInt.toNat) : Int) (S.2.2 (a1.toInt.toNat)).2.1 (S.2.2 (a1.toInt.toNat)).2.2 := v25.eq (f45.2.2 (by decide))
          have v52 : PeC τ43 x5q (a1.toInt.toNat) (S.2.2 (a1.toInt.toNat)) := v26.gr (PGr.fr f45 (by decide))
          have u53 : IV (gV τ43 14 0 1) 0 16 := i44.1 14 0 1
          rw [v26.2.1] at h48
          show MW p l e _ s m args below meth c _ 4 G 0 0 45 [some (.ref (G.1 0 0)), some (.int a1), some (.int a2), some (.ref x5q)] [.int x46] τ43
          refine m_goto (tgt := 56) C dX11_ask_45 (by decide) ?_
          exact m_iret C hr hlk (by decide) (by decide) dX11_ask_56 ⟨_, rfl, i44, g47, (iv_any x46), (Or.inr ⟨by omega, by omega, by rw [show a2.toInt = 0 by omega, asV_0]; exact h48.1, by rw [show a2.toInt = 0 by omega, asL_0]; exact h48.2.is (by omega)⟩)⟩
      · have f54 : 1 < a2.toInt := by
          have q : _ := c17
          simp only [ti_nle, ti_nlt, ti_le, ti_lt, ti_eq, ti_ne, Classical.not_not, kt_1] at q
          omega
        have b55 : IV a2 2 2147483647 := ⟨by have q1 := kc_1; have q2 := b16; omega, by have q1 := kc_1; have q2 := b16; omega⟩
        refine m_ldc (v := (-1000001)) C dX11_ask_22 q1_234 ?_
        exact m_iret C hr hlk (by decide) (by decide) dX11_ask_24 ⟨_, rfl, i3, g7, (iv_wk kc_m1000001 (by decide)), (Or.inl ⟨by omega, kt_m1000001, f4.1 14 0 1 (by decide) (by decide), fun i => f4.1 15 0 i (by simp) (by decide)⟩)⟩

abbrev MS_X12_leavesS : List (Nat × Nat) := [(22, 20)]
abbrev AS_X12_leavesS : List Nat := [31]
set_option maxHeartbeats 4000000 in
set_option maxRecDepth 100000 in
theorem c_X12_leavesS (l : Launch) (G : Gt) (σ : Sg) (a1 : Int32) (a2 : Int32) (a3 : Int32) (hI : Inv σ) (htr : (gV σ 22 0 20).toInt ≤ 10) : Mc l G yX12_leaves cX12_leaves 4 none 0 0 0 0 [.ref (G.1 22 0), .int a1, .int a2, .int a3] σ (PV fun τ => Inv τ ∧ Fr MS_X12_leavesS AS_X12_leavesS σ τ ∧ ((0 < a3.toInt → Tp 22 20 31 σ τ [a1.toInt, a2.toInt, a3.toInt]) ∧ (a3.toInt ≤ 0 → 0 < a2.toInt → Tp 22 20 31 σ τ [a1.toInt, a2.toInt]))) := by
  refine Mc.of (L0 := [some (.ref (G.1 22 0)), some (.int a1), some (.int a2), some (.int a3)]) (by decide) (Nat.le_of_ble_eq_true rfl) rfl ?_
  intro p e s m args below meth c C hr hlk
  have C : Cx p s m args c cX12_leaves 4 "LeanTowerModel" := C
  have k0 : (0 : Int32).toInt = 0 := by decide
  have k1 : (1 : Int32).toInt = 1 := by decide
  have u1 : IV (gV σ 22 0 20) 0 13 := hI.1 22 0 20
  have b2 : IV (gV σ 22 0 20) 0 10 := ⟨by omega, by omega⟩
  refine m_aload_n C dX12_leaves_0 rfl rfl ?_
  refine g_22_19 C q4_135 dX12_leaves_1 ?_
  refine m_aload_n C dX12_leaves_4 rfl rfl ?_
  refine g_22_20 C q4_136 dX12_leaves_5 ?_
  refine m_eqs (w := (gV σ 22 0 20)) rfl ?_
  refine m_iload_n C dX12_leaves_8 rfl rfl ?_
  refine as_31 C b2 (by decide) rfl dX12_leaves_9 ?_
  refine m_tops (fun τ3 eτ3 => ?_)
  have i4 : Inv τ3 := eτ3 ▸ Inv.putF hI (by decide) rfl
  have f5 : Fr MS_X12_leavesS AS_X12_leavesS σ τ3 := eτ3 ▸ Fr.put (Fr.rf) (Or.inr (by decide))
  refine m_aload_n C dX12_leaves_10 rfl rfl ?_
  refine g_22_19 C q4_135 dX12_leaves_11 ?_
  refine m_aload_n C dX12_leaves_14 rfl rfl ?_
  refine g_22_20 C q4_136 dX12_leaves_15 ?_
  refine m_eqs (w := (gV σ 22 0 20)) (show gV τ3 22 0 20 = (gV σ 22 0 20) from gV_put eτ3 rfl) ?_
  refine m_iconst (v := 1) C dX12_leaves_18 (by decide) ?_
  refine m_iadd C dX12_leaves_19 ?_
  refine m_topi (fun x6 ex6 => ?_)
  have tx6 : x6.toInt = (gV σ 22 0 20).toInt + 1 := by rw [ex6, ti_addv b2 kc_1 (by decide), kt_1]
  have b7 : IV x6 1 11 := by rw [ex6]; exact iv_add b2 kc_1 (by decide)
  refine m_iload_n C dX12_leaves_20 rfl rfl ?_
  refine as_31 C b7 (by decide) rfl dX12_leaves_21 ?_
  refine m_tops (fun τ8 eτ8 => ?_)
  have i9 : Inv τ8 := eτ8 ▸ Inv.putF i4 (by decide) rfl
  have f10 : Fr MS_X12_leavesS AS_X12_leavesS σ τ8 := eτ8 ▸ Fr.put (f5) (Or.inr (by decide))
  refine m_aload_n C dX12_leaves_22 rfl rfl ?_
  refine g_22_19 C q4_135 dX12_leaves_23 ?_
  refine m_aload_n C dX12_leaves_26 rfl rfl ?_
  refine g_22_20 C q4_136 dX12_leaves_27 ?_
  refine m_eqs (w := (gV σ 22 0 20)) (show gV τ8 22 0 20 = (gV σ 22 0 20) from gV_put eτ8 (show gV τ3 22 0 20 = (gV σ 22 0 20) from gV_put eτ3 rfl)) ?_
  refine m_iconst (v := 2) C dX12_leaves_30 (by decide) ?_
  refine m_iadd C dX12_leaves_31 ?_
  refine m_topi (fun x11 ex11 => ?_)
  have tx11 : x11.toInt = (gV σ 22 0 20).toInt + 2 := by rw [ex11, ti_addv b2 kc_2 (by decide), kt_2]
  have b12 : IV x11 2 12 := by rw [ex11]; exact iv_add b2 kc_2 (by decide)
  refine m_iload_n C dX12_leaves_32 rfl rfl ?_
  refine as_31 C b12 (by decide) rfl dX12_leaves_33 ?_
  refine m_tops (fun τ13 eτ13 => ?_)
  have i14 : Inv τ13 := eτ13 ▸ Inv.putF i9 (by decide) rfl
  have f15 : Fr MS_X12_leavesS AS_X12_leavesS σ τ13 := eτ13 ▸ Fr.put (f10) (Or.inr (by decide))
  refine m_aload_n C dX12_leaves_34 rfl rfl ?_
  refine m_dup C dX12_leaves_35 rfl ?_
  refine g_22_20 C q4_136 dX12_leaves_36 ?_
  refine m_eqs (w := (gV σ 22 0 20)) (show gV τ13 22 0 20 = (gV σ 22 0 20) from gV_put eτ13 (show gV τ8 22 0 20 = (gV σ 22 0 20) from gV_put eτ8 (show gV τ3 22 0 20 = (gV σ 22 0 20) from gV_put eτ3 rfl))) ?_
  refine m_iload_n C dX12_leaves_39 rfl rfl ?_
  refine m_if_le (tgt := 47) C dX12_leaves_40 (by decide) (fun c16 => ?_) (fun c16 => ?_)
  · have f17 : a3.toInt ≤ 0 := by
      have q : _ := c16
      simp only [ti_nle, ti_nlt, ti_le, ti_lt, ti_eq, ti_ne, Classical.not_not, kt_0] at q
      omega
    have b18 : IV a3 (-2147483648) 0 := ⟨by have q1 := (iv_any a3); have q2 := kc_0; omega, by have q1 := (iv_any a3); have q2 := kc_0; omega⟩
    refine m_iload_n C dX12_leaves_47 rfl rfl ?_
    refine m_if_le (tgt := 55) C dX12_leaves_48 (by decide) (fun c19 => ?_) (fun c19 => ?_)
    · have f20 : a2.toInt ≤ 0 := by
        have q : _ := c19
        simp only [ti_nle, ti_nlt, ti_le, ti_lt, ti_eq, ti_ne, Classical.not_not, kt_0] at q
        omega
      have b21 : IV a2 (-2147483648) 0 := ⟨by have q1 := (iv_any a2); have q2 := kc_0; omega, by have q1 := (iv_any a2); have q2 := kc_0; omega⟩
      refine m_iconst (v := 1) C dX12_leaves_55 (by decide) ?_
      refine m_iadd C dX12_leaves_56 ?_
      refine m_topi (fun x22 ex22 => ?_)
      have tx22 : x22.toInt = (gV σ 22 0 20).toInt + 1 := by rw [ex22, ti_addv b2 kc_1 (by decide), kt_1]
      have b23 : IV x22 1 11 := by rw [ex22]; exact iv_add b2 kc_1 (by decide)
      refine p_22_20 C q4_136 dX12_leaves_57 ?_
      refine m_tops (fun τ24 eτ24 => ?_)
      have i25 : Inv τ24 := eτ24 ▸ Inv.put i14 (by decide) (iv_wk b23 (by decide))
      have f26 : Fr MS_X12_leavesS AS_X12_leavesS σ τ24 := eτ24 ▸ Fr.put (f15) (Or.inl (by decide))
      have q27 : (gV τ24 22 0 20).toInt = x22.toInt := congrArg Int32.toInt (show (gV τ24 22 0 20) = x22 from (show gV τ24 22 0 20 = x22 from gV_put eτ24 (gV_self _ _ _ _ _)))
      exact m_vret C hr hlk (by decide) (by decide) dX12_leaves_60 ⟨rfl, i25, f26, ⟨fun h => (Tp.three eτ3 eτ8 eτ13 eτ24 (by omega) (by omega) (by omega)).1 (by omega), fun h1 h2 => (Tp.three eτ3 eτ8 eτ13 eτ24 (by omega) (by omega) (by omega)).2 (by omega)⟩⟩
    · have f28 : 0 < a2.toInt := by
        have q : _ := c19
        simp only [ti_nle, ti_nlt, ti_le, ti_lt, ti_eq, ti_ne, Classical.not_not, kt_0] at q
        omega
      have b29 : IV a2 1 2147483647 := ⟨by have q1 := kc_0; have q2 := (iv_any a2); omega, by have q1 := kc_0; have q2 := (iv_any a2); omega⟩
      refine m_iconst (v := 2) C dX12_leaves_51 (by decide) ?_
      refine m_goto (tgt := 56) C dX12_leaves_52 (by decide) ?_
      refine m_iadd C dX12_leaves_56 ?_
      refine m_topi (fun x30 ex30 => ?_)
      have tx30 : x30.toInt = (gV σ 22 0 20).toInt + 2 := by rw [ex30, ti_addv b2 kc_2 (by decide), kt_2]
      have b31 : IV x30 2 12 := by rw [ex30]; exact iv_add b2 kc_2 (by decide)
      refine p_22_20 C q4_136 dX12_leaves_57 ?_
      refine m_tops (fun τ32 eτ32 => ?_)
      have i33 : Inv τ32 := eτ32 ▸ Inv.put i14 (by decide) (iv_wk b31 (by decide))
      have f34 : Fr MS_X12_leavesS AS_X12_leavesS σ τ32 := eτ32 ▸ Fr.put (f15) (Or.inl (by decide))
      have q35 : (gV τ32 22 0 20).toInt = x30.toInt := congrArg Int32.toInt (show (gV τ32 22 0 20) = x30 from (show gV τ32 22 0 20 = x30 from gV_put eτ32 (gV_self _ _ _ _ _)))
      exact m_vret C hr hlk (by decide) (by decide) dX12_leaves_60 ⟨rfl, i33, f34, ⟨fun h => (Tp.three eτ3 eτ8 eτ13 eτ32 (by omega) (by omega) (by omega)).1 (by omega), fun h1 h2 => (Tp.three eτ3 eτ8 eτ13 eτ32 (by omega) (by omega) (by omega)).2 (by omega)⟩⟩
  · have f36 : 0 < a3.toInt := by
      have q : _ := c16
      simp only [ti_nle, ti_nlt, ti_le, ti_lt, ti_eq, ti_ne, Classical.not_not, kt_0] at q
      omega
    have b37 : IV a3 1 2147483647 := ⟨by have q1 := kc_0; have q2 := (iv_any a3); omega, by have q1 := kc_0; have q2 := (iv_any a3); omega⟩
    refine m_iconst (v := 3) C dX12_leaves_43 (by decide) ?_
    refine m_goto (tgt := 56) C dX12_leaves_44 (by decide) ?_
    refine m_iadd C dX12_leaves_56 ?_
    refine m_topi (fun x38 ex38 => ?_)
    have tx38 : x38.toInt = (gV σ 22 0 20).toInt + 3 := by rw [ex38, ti_addv b2 kc_3 (by decide), kt_3]
    have b39 : IV x38 3 13 := by rw [ex38]; exact iv_add b2 kc_3 (by decide)
    refine p_22_20 C q4_136 dX12_leaves_57 ?_
    refine m_tops (fun τ40 eτ40 => ?_)
    have i41 : Inv τ40 := eτ40 ▸ Inv.put i14 (by decide) (iv_wk b39 (by decide))
    have f42 : Fr MS_X12_leavesS AS_X12_leavesS σ τ40 := eτ40 ▸ Fr.put (f15) (Or.inl (by decide))
    have q43 : (gV τ40 22 0 20).toInt = x38.toInt := congrArg Int32.toInt (show (gV τ40 22 0 20) = x38 from (show gV τ40 22 0 20 = x38 from gV_put eτ40 (gV_self _ _ _ _ _)))
    exact m_vret C hr hlk (by decide) (by decide) dX12_leaves_60 ⟨rfl, i41, f42, ⟨fun h => (Tp.three eτ3 eτ8 eτ13 eτ40 (by omega) (by omega) (by omega)).1 (by omega), fun h1 h2 => (Tp.three eτ3 eτ8 eτ13 eτ40 (by omega) (by omega) (by omega)).2 (by omega)⟩⟩

abbrev MS_X12_burdenOfS : List (Nat × Nat) := []
abbrev AS_X12_burdenOfS : List Nat := []
set_option maxHeartbeats 4000000 in
set_option maxRecDepth 100000 in
theorem c_X12_burdenOfS (l : Launch) (G : Gt) (σ : Sg) (S : Stt) (I : Nat → Stt) (a1 : Int32) (hI : Inv σ) (ha1 : IV a1 0 6) (hMA : MA σ S I) (hin : (0 ≤ a1.toInt ∧ a1.toInt < S.2.1)) : Mc l G yX12_burdenOf cX12_burdenOf 3 (some .int) 0 0 0 0 [.ref (G.1 22 0), .int a1] σ (PI fun r τ => Inv τ ∧ Fr MS_X12_burdenOfS AS_X12_burdenOfS σ τ ∧ IV r 0 40 ∧ r.toInt = (S.2.2 (a1.toInt.toNat)).2.1) := by
  refine Mc.of (L0 := [some (.ref (G.1 22 0)), some (.int a1), none]) (by decide) (Nat.le_of_ble_eq_true rfl) rfl ?_
  intro p e s m args below meth c C hr hlk
  have C : Cx p s m args c cX12_burdenOf 3 "LeanTowerModel" := C
  have k0 : (0 : Int32).toInt = 0 := by decide
  have k1 : (1 : Int32).toInt = 1 := by decide
  have q1 : (gV σ 23 0 2).toInt = S.2.1 := hMA.1.2.2.1
  have q2 := hMA.1.1
  have q3 := (hMA.1.2.2.2 (a1.toInt.toNat) (by omega)).2.2.2
  refine m_aload_n C dX12_burdenOf_0 rfl rfl ?_
  refine g_22_0 C q4_116 dX12_burdenOf_1 ?_
  refine m_bipush (v := 10) C dX12_burdenOf_4 (by decide) ?_
  refine m_iload_n C dX12_burdenOf_6 rfl rfl ?_
  refine m_iadd C dX12_burdenOf_7 ?_
  refine m_topi (fun x4 ex4 => ?_)
  have tx4 : x4.toInt = 10 + a1.toInt := by rw [ex4, ti_addv kc_10 ha1 (by decide), kt_10]
  have b5 : IV x4 10 16 := by rw [ex4]; exact iv_add kc_10 ha1 (by decide)
  refine al_23 C b5 (by decide) rfl dX12_burdenOf_8 ?_
  refine m_topi (fun x6 ex6 => ?_)
  have q7 := (hMA.1.2.2.2 (a1.toInt.toNat) (by omega)).2
  rw [show 0 + (10 + (a1.toInt.toNat)) = (x4.toInt.toNat) by omega, show gV σ 23 0 (x4.toInt.toNat) = x6 from ex6.symm] at q7
  have q8 := buF_k (k := (S.2.2 a1.toInt.toNat).1) (w := x6.toInt)
  have b9 : IV x6 1 20 := ⟨by omega, by omega⟩
  refine m_istore_n (L1 := [some (.ref (G.1 22 0)), some (.int a1), some (.int x6)]) C dX12_burdenOf_9 rfl (by decide) rfl rfl ?_
  refine m_aload_n C dX12_burdenOf_10 rfl rfl ?_
  refine g_22_0 C q4_116 dX12_burdenOf_11 ?_
  refine m_iconst (v := 3) C dX12_burdenOf_14 (by decide) ?_
  refine m_iload_n C dX12_burdenOf_15 rfl rfl ?_
  refine m_iadd C dX12_burdenOf_16 ?_
  refine m_topi (fun x10 ex10 => ?_)
  have tx10 : x10.toInt = 3 + a1.toInt := by rw [ex10, ti_addv kc_3 ha1 (by decide), kt_3]
  have b11 : IV x10 3 9 := by rw [ex10]; exact iv_add kc_3 ha1 (by decide)
  refine al_23 C b11 (by decide) rfl dX12_burdenOf_17 ?_
  refine m_topi (fun x12 ex12 => ?_)
  have q13 : x12.toInt = (S.2.2 a1.toInt.toNat).1 := by rw [← (hMA.1.2.2.2 a1.toInt.toNat (by omega)).1, show 0 + (3 + a1.toInt.toNat) = (x10.toInt.toNat) by omega, show gV σ 23 0 (x10.toInt.toNat) = x12 from ex12.symm]
  have b14 : IV x12 1 5 := ⟨by omega, by omega⟩
  by_cases s15 : x12.toInt < 2 ∨ 5 < x12.toInt
  · refine m_tableOut (tgt := 60) C dX12_burdenOf_18 s15 (by decide) ?_
    refine m_iload_n C dX12_burdenOf_60 rfl rfl ?_
    exact m_iret C hr hlk (by decide) (by decide) dX12_burdenOf_61 ⟨_, rfl, hI, Fr.rf, (iv_wk b9 (by decide)), (by omega)⟩
  by_cases s16 : x12.toInt = 2
  · refine m_tableIn (tgt := 48) (off := 30) C dX12_burdenOf_18 (by omega) (by omega) (by rw [s16]; rfl) (by decide) ?_
    have b17 : IV x12 2 2 := ⟨by omega, by omega⟩
    refine m_iconst (v := 2) C dX12_burdenOf_48 (by decide) ?_
    refine m_iload_n C dX12_burdenOf_49 rfl rfl ?_
    refine m_imul C dX12_burdenOf_50 ?_
    refine m_topi (fun x18 ex18 => ?_)
    have tx18 : x18.toInt = 2 * x6.toInt := by rw [ex18, ti_mulv kc_2 b9 (by decide), kt_2]
    have b19 : IV x18 0 40 := by rw [ex18]; exact iv_mul kc_2 b9 (by decide)
    exact m_iret C hr hlk (by decide) (by decide) dX12_burdenOf_51 ⟨_, rfl, hI, Fr.rf, b19, (by omega)⟩
  by_cases s20 : x12.toInt = 3
  · refine m_tableIn (tgt := 56) (off := 38) C dX12_burdenOf_18 (by omega) (by omega) (by rw [s20]; rfl) (by decide) ?_
    have b21 : IV x12 3 3 := ⟨by omega, by omega⟩
    refine m_iload_n C dX12_burdenOf_56 rfl rfl ?_
    refine m_iconst (v := 2) C dX12_burdenOf_57 (by decide) ?_
    refine m_idiv C dX12_burdenOf_58 (iv_nz kc_2 (by decide)) ?_
    refine m_topi (fun x22 ex22 => ?_)
    have b23 : IV x22 0 10 := by rw [ex22]; exact iv_div b9 kc_2 (by decide)
    have q24 : x22.toInt = x6.toInt / 2 := by rw [ex22]; exact ti_div2 b9
    exact m_iret C hr hlk (by decide) (by decide) dX12_burdenOf_59 ⟨_, rfl, hI, Fr.rf, (iv_wk b23 (by decide)), (by omega)⟩
  by_cases s25 : x12.toInt = 4
  · refine m_tableIn (tgt := 60) (off := 42) C dX12_burdenOf_18 (by omega) (by omega) (by rw [s25]; rfl) (by decide) ?_
    have b26 : IV x12 4 4 := ⟨by omega, by omega⟩
    refine m_iload_n C dX12_burdenOf_60 rfl rfl ?_
    exact m_iret C hr hlk (by decide) (by decide) dX12_burdenOf_61 ⟨_, rfl, hI, Fr.rf, (iv_wk b9 (by decide)), (by omega)⟩
  by_cases s27 : x12.toInt = 5
  · refine m_tableIn (tgt := 52) (off := 34) C dX12_burdenOf_18 (by omega) (by omega) (by rw [s27]; rfl) (by decide) ?_
    have b28 : IV x12 5 5 := ⟨by omega, by omega⟩
    refine m_iload_n C dX12_burdenOf_52 rfl rfl ?_
    refine m_iconst (v := 5) C dX12_burdenOf_53 (by decide) ?_
    refine m_iadd C dX12_burdenOf_54 ?_
    refine m_topi (fun x29 ex29 => ?_)
    have tx29 : x29.toInt = x6.toInt + 5 := by rw [ex29, ti_addv b9 kc_5 (by decide), kt_5]
    have b30 : IV x29 6 25 := by rw [ex29]; exact iv_add b9 kc_5 (by decide)
    exact m_iret C hr hlk (by decide) (by decide) dX12_burdenOf_55 ⟨_, rfl, hI, Fr.rf, (iv_wk b30 (by decide)), (by omega)⟩
  exact absurd s15 (by omega)

abbrev MS_X12_plainMarkS : List (Nat × Nat) := [(22, 20)]
abbrev AS_X12_plainMarkS : List Nat := [31]
set_option maxHeartbeats 4000000 in
set_option maxRecDepth 100000 in
theorem c_X12_plainMarkS (l : Launch) (G : Gt) (σ : Sg) (S : Stt) (I : Nat → Stt) (a1 : Int32) (hI : Inv σ) (ha1 : IV a1 0 6) (hMA : MA σ S I) (hin : (0 ≤ a1.toInt ∧ a1.toInt < S.2.1)) (hk3 : (S.2.2 a1.toInt.toNat).1 ≤ 3) (htr : (gV σ 22 0 20).toInt ≤ 10) : Mc l G yX12_plainMark cX12_plainMark 3 (some .int) 1 23 0 0 [.ref (G.1 22 0), .int a1] σ (PI fun r τ => Inv τ ∧ Fr MS_X12_plainMarkS AS_X12_plainMarkS σ τ ∧ IV r (-2000) 2000 ∧ (r.toInt = mkV (S.2.2 a1.toInt.toNat).1 ((a1.toInt.toNat) : Int) (S.2.2 (a1.toInt.toNat)).2.1 (S.2.2 (a1.toInt.toNat)).2.2 ∧ Tp 22 20 31 σ τ (mkL (S.2.2 a1.toInt.toNat).1))) := by
  refine Mc.of (L0 := [some (.ref (G.1 22 0)), some (.int a1), none]) (by decide) (Nat.le_of_ble_eq_true rfl) rfl ?_
  intro p e s m args below meth c C hr hlk
  have C : Cx p s m args c cX12_plainMark 3 "LeanTowerModel" := C
  have k0 : (0 : Int32).toInt = 0 := by decide
  have k1 : (1 : Int32).toInt = 1 := by decide
  have u1 : IV (gV σ 22 0 20) 0 13 := hI.1 22 0 20
  have q2 : (gV σ 23 0 2).toInt = S.2.1 := hMA.1.2.2.1
  have q3 := hMA.1.1
  have q4 := (hMA.1.2.2.2 (a1.toInt.toNat) (by omega)).2.2.2
  refine m_iload_n C dX12_plainMark_0 rfl rfl ?_
  refine m_aload_n C dX12_plainMark_1 rfl rfl ?_
  refine g_22_0 C q4_116 dX12_plainMark_2 ?_
  refine m_bipush (v := 17) C dX12_plainMark_5 (by decide) ?_
  refine m_iload_n C dX12_plainMark_7 rfl rfl ?_
  refine m_iadd C dX12_plainMark_8 ?_
  refine m_topi (fun x5 ex5 => ?_)
  have tx5 : x5.toInt = 17 + a1.toInt := by rw [ex5, ti_addv kc_17 ha1 (by decide), kt_17]
  have b6 : IV x5 17 23 := by rw [ex5]; exact iv_add kc_17 ha1 (by decide)
  refine al_23 C b6 (by decide) rfl dX12_plainMark_9 ?_
  refine m_topi (fun x7 ex7 => ?_)
  have q8 : x7.toInt = (S.2.2 (a1.toInt.toNat)).2.2 := by rw [← (hMA.1.2.2.2 a1.toInt.toNat (by omega)).2.2.1, show 0 + (17 + a1.toInt.toNat) = (x5.toInt.toNat) by omega, show gV σ 23 0 (x5.toInt.toNat) = x7 from ex7.symm]
  have b9 : IV x7 1 4 := ⟨by omega, by omega⟩
  refine m_iadd C dX12_plainMark_10 ?_
  refine m_topi (fun x10 ex10 => ?_)
  have tx10 : x10.toInt = a1.toInt + x7.toInt := by rw [ex10, ti_addv ha1 b9 (by decide)]
  have b11 : IV x10 1 10 := by rw [ex10]; exact iv_add ha1 b9 (by decide)
  refine m_istore_n (L1 := [some (.ref (G.1 22 0)), some (.int a1), some (.int x10)]) C dX12_plainMark_11 rfl (by decide) rfl rfl ?_
  refine m_aload_n C dX12_plainMark_12 rfl rfl ?_
  refine g_22_0 C q4_116 dX12_plainMark_13 ?_
  refine m_iconst (v := 3) C dX12_plainMark_16 (by decide) ?_
  refine m_iload_n C dX12_plainMark_17 rfl rfl ?_
  refine m_iadd C dX12_plainMark_18 ?_
  refine m_topi (fun x12 ex12 => ?_)
  have tx12 : x12.toInt = 3 + a1.toInt := by rw [ex12, ti_addv kc_3 ha1 (by decide), kt_3]
  have b13 : IV x12 3 9 := by rw [ex12]; exact iv_add kc_3 ha1 (by decide)
  refine al_23 C b13 (by decide) rfl dX12_plainMark_19 ?_
  refine m_topi (fun x14 ex14 => ?_)
  have q15 : x14.toInt = (S.2.2 a1.toInt.toNat).1 := by rw [← (hMA.1.2.2.2 a1.toInt.toNat (by omega)).1, show 0 + (3 + a1.toInt.toNat) = (x12.toInt.toNat) by omega, show gV σ 23 0 (x12.toInt.toNat) = x14 from ex14.symm]
  have b16 : IV x14 1 5 := ⟨by omega, by omega⟩
  by_cases s17 : x14.toInt = 2
  · refine m_lookup (tgt := 48) (off := 28) C dX12_plainMark_20 rfl (by rw [s17]; rfl) (by decide) ?_
    refine m_aload_n C dX12_plainMark_48 rfl rfl ?_
    refine m_bipush (v := 22) C dX12_plainMark_49 (by decide) ?_
    refine m_bipush (v := 21) C dX12_plainMark_51 (by decide) ?_
    refine m_bipush (v := 20) C dX12_plainMark_53 (by decide) ?_
    have q18 := kt_22
    have q19 := kt_21
    have q20 := kt_20
    refine m_callV (n := 3) (ci := 11) (st := []) C (c_X12_leavesS l G σ (22) (21) (20) hI (by omega)) (by decide) (by decide) rfl rfl rfl q5_205 q5_202 q5_204 q0_49 q1_7 (by decide +kernel) rfl (by decide) (by decide) rfl (Nat.le_of_ble_eq_true rfl) dX12_plainMark_55 ?_
    rintro _ τ21 ⟨rfl, i22, f23, h27⟩
    have g26 : Fr MS_X12_plainMarkS AS_X12_plainMarkS σ τ21 := Fr.call (Fr.rf) f23 (by decide)
    have v28 : Tp 22 20 31 σ τ21 [22, 21, 20] := by have q := h27.1 (by omega); rw [kt_22, kt_21, kt_20] at q; exact q
    have q29 := v28.1
    simp only [List.length_cons, List.length_nil] at q29
    have u30 : IV (gV τ21 22 0 20) 0 13 := i22.1 22 0 20
    show MW p l e _ s m args below meth c _ 3 G 0 0 58 [some (.ref (G.1 22 0)), some (.int a1), some (.int x10)] [] τ21
    refine m_iload_n C dX12_plainMark_58 rfl rfl ?_
    refine m_sipush (v := 1000) C dX12_plainMark_59 (by decide) ?_
    refine m_isub C dX12_plainMark_62 ?_
    refine m_topi (fun x31 ex31 => ?_)
    have tx31 : x31.toInt = x10.toInt - 1000 := by rw [ex31, ti_subv b11 kc_1000 (by decide), kt_1000]
    have b32 : IV x31 (-999) (-990) := by rw [ex31]; exact iv_sub b11 kc_1000 (by decide)
    exact m_iret C hr hlk (by decide) (by decide) dX12_plainMark_63 ⟨_, rfl, i22, g26, (iv_wk b32 (by decide)), (by have hk : (S.2.2 a1.toInt.toNat).1 = 2 := (by omega); rw [hk, mkV_2, mkL_2]; exact ⟨by omega, v28⟩)⟩
  by_cases s33 : x14.toInt = 3
  · refine m_lookup (tgt := 64) (off := 44) C dX12_plainMark_20 rfl (by rw [s33]; rfl) (by decide) ?_
    refine m_aload_n C dX12_plainMark_64 rfl rfl ?_
    refine m_bipush (v := 24) C dX12_plainMark_65 (by decide) ?_
    refine m_bipush (v := 21) C dX12_plainMark_67 (by decide) ?_
    refine m_bipush (v := 20) C dX12_plainMark_69 (by decide) ?_
    have q34 := kt_24
    have q35 := kt_21
    have q36 := kt_20
    refine m_callV (n := 3) (ci := 11) (st := []) C (c_X12_leavesS l G σ (24) (21) (20) hI (by omega)) (by decide) (by decide) rfl rfl rfl q5_205 q5_202 q5_204 q0_49 q1_7 (by decide +kernel) rfl (by decide) (by decide) rfl (Nat.le_of_ble_eq_true rfl) dX12_plainMark_71 ?_
    rintro _ τ37 ⟨rfl, i38, f39, h43⟩
    have g42 : Fr MS_X12_plainMarkS AS_X12_plainMarkS σ τ37 := Fr.call (Fr.rf) f39 (by decide)
    have v44 : Tp 22 20 31 σ τ37 [24, 21, 20] := by have q := h43.1 (by omega); rw [kt_24, kt_21, kt_20] at q; exact q
    have q45 := v44.1
    simp only [List.length_cons, List.length_nil] at q45
    have u46 : IV (gV τ37 22 0 20) 0 13 := i38.1 22 0 20
    show MW p l e _ s m args below meth c _ 3 G 0 0 74 [some (.ref (G.1 22 0)), some (.int a1), some (.int x10)] [] τ37
    refine m_iconst (v := 2) C dX12_plainMark_74 (by decide) ?_
    refine m_iload_n C dX12_plainMark_75 rfl rfl ?_
    refine m_imul C dX12_plainMark_76 ?_
    refine m_topi (fun x47 ex47 => ?_)
    have tx47 : x47.toInt = 2 * x10.toInt := by rw [ex47, ti_mulv kc_2 b11 (by decide), kt_2]
    have b48 : IV x47 0 20 := by rw [ex47]; exact iv_mul kc_2 b11 (by decide)
    have q49 : x47.toInt = 2 * x10.toInt := by rw [ex47]; exact ti_dbl b11 (by decide)
    have b50 : IV x47 2 20 := ⟨by omega, by omega⟩
    exact m_iret C hr hlk (by decide) (by decide) dX12_plainMark_77 ⟨_, rfl, i38, g42, (iv_wk b50 (by decide)), (by have hk : (S.2.2 a1.toInt.toNat).1 = 3 := (by omega); rw [hk, mkV_3, mkL_3]; exact ⟨by omega, v44⟩)⟩
  refine m_lookup (tgt := 78) (off := 58) C dX12_plainMark_20 rfl (by simp [Op.lookupswitch.offset, Ne.symm s17, Ne.symm s33]) (by decide) ?_
  refine m_aload_n C dX12_plainMark_78 rfl rfl ?_
  refine m_bipush (v := 21) C dX12_plainMark_79 (by decide) ?_
  refine m_bipush (v := 20) C dX12_plainMark_81 (by decide) ?_
  refine m_iconst (v := 0) C dX12_plainMark_83 (by decide) ?_
  have q51 := kt_21
  have q52 := kt_20
  have q53 := kt_0
  refine m_callV (n := 3) (ci := 11) (st := []) C (c_X12_leavesS l G σ (21) (20) (0) hI (by omega)) (by decide) (by decide) rfl rfl rfl q5_205 q5_202 q5_204 q0_49 q1_7 (by decide +kernel) rfl (by decide) (by decide) rfl (Nat.le_of_ble_eq_true rfl) dX12_plainMark_84 ?_
  rintro _ τ54 ⟨rfl, i55, f56, h60⟩
  have g59 : Fr MS_X12_plainMarkS AS_X12_plainMarkS σ τ54 := Fr.call (Fr.rf) f56 (by decide)
  have v61 : Tp 22 20 31 σ τ54 [21, 20] := by have q := h60.2 (by omega) (by omega); rw [kt_21, kt_20] at q; exact q
  have q62 := v61.1
  simp only [List.length_cons, List.length_nil] at q62
  have u63 : IV (gV τ54 22 0 20) 0 13 := i55.1 22 0 20
  show MW p l e _ s m args below meth c _ 3 G 0 0 87 [some (.ref (G.1 22 0)), some (.int a1), some (.int x10)] [] τ54
  refine m_iload_n C dX12_plainMark_87 rfl rfl ?_
  exact m_iret C hr hlk (by decide) (by decide) dX12_plainMark_88 ⟨_, rfl, i55, g59, (iv_wk b11 (by decide)), (by have hk : (S.2.2 a1.toInt.toNat).1 = 1 := (by omega); rw [hk, mkV_1, mkL_1]; exact ⟨by omega, v61⟩)⟩

abbrev MS_X12_sizeS : List (Nat × Nat) := [(22, 20)]
abbrev AS_X12_sizeS : List Nat := [31]
set_option maxHeartbeats 4000000 in
set_option maxRecDepth 100000 in
theorem c_X12_sizeS (l : Launch) (G : Gt) (σ : Sg) (S : Stt) (I : Nat → Stt) (a1 : Int32) (hI : Inv σ) (ha1 : IV a1 0 6) (hMA : MA σ S I) (hin : (0 ≤ a1.toInt ∧ a1.toInt < S.2.1)) (htr : (gV σ 22 0 20).toInt ≤ 7) : Mc l G yX12_size cX12_size 3 (some .int) 2 45 0 0 [.ref (G.1 22 0), .int a1] σ (PI fun r τ => Inv τ ∧ Fr MS_X12_sizeS AS_X12_sizeS σ τ ∧ IV r (-3000) 3000 ∧ (r.toInt = szV (S.2.2 a1.toInt.toNat).1 ((a1.toInt.toNat) : Int) (S.2.2 (a1.toInt.toNat)).2.1 (S.2.2 (a1.toInt.toNat)).2.2 ∧ Tp 22 20 31 σ τ (szL (S.2.2 a1.toInt.toNat).1))) := by
  refine Mc.of (L0 := [some (.ref (G.1 22 0)), some (.int a1), none]) (by decide) (Nat.le_of_ble_eq_true rfl) rfl ?_
  intro p e s m args below meth c C hr hlk
  have C : Cx p s m args c cX12_size 3 "LeanTowerModel" := C
  have k0 : (0 : Int32).toInt = 0 := by decide
  have k1 : (1 : Int32).toInt = 1 := by decide
  have u1 : IV (gV σ 22 0 20) 0 13 := hI.1 22 0 20
  have q2 : (gV σ 23 0 2).toInt = S.2.1 := hMA.1.2.2.1
  have q3 := hMA.1.1
  have q4 := (hMA.1.2.2.2 (a1.toInt.toNat) (by omega)).2.2.2
  refine m_aload_n C dX12_size_0 rfl rfl ?_
  refine m_iload_n C dX12_size_1 rfl rfl ?_
  refine m_callV (n := 1) (ci := 11) (st := []) C (c_X12_burdenOfS l G σ S I (a1) hI ha1 hMA (by omega)) (by decide) (by decide) rfl rfl rfl q5_86 q5_83 q5_85 q0_42 q1_7 (by decide +kernel) rfl (by decide) (by decide) rfl (Nat.le_of_ble_eq_true rfl) dX12_size_2 ?_
  rintro _ τ5 ⟨x8, rfl, i6, f7, b9, h11⟩
  have g10 : Fr MS_X12_sizeS AS_X12_sizeS σ τ5 := Fr.call (Fr.rf) f7 (by decide)
  have q12 : (gV τ5 22 0 20).toInt = (gV σ 22 0 20).toInt := congrArg Int32.toInt (show (gV τ5 22 0 20) = (gV σ 22 0 20) from (show gV τ5 22 0 20 = (gV σ 22 0 20) from (f7.1 22 0 (20) (by decide) (by decide)).trans rfl))
  show MW p l e _ s m args below meth c _ 3 G 0 0 5 [some (.ref (G.1 22 0)), some (.int a1), none] [.int x8] τ5
  refine m_istore_n (L1 := [some (.ref (G.1 22 0)), some (.int a1), some (.int x8)]) C dX12_size_5 rfl (by decide) rfl rfl ?_
  refine m_aload_n C dX12_size_6 rfl rfl ?_
  refine g_22_0 C q4_116 dX12_size_7 ?_
  refine m_iconst (v := 3) C dX12_size_10 (by decide) ?_
  refine m_iload_n C dX12_size_11 rfl rfl ?_
  refine m_iadd C dX12_size_12 ?_
  refine m_topi (fun x13 ex13 => ?_)
  have tx13 : x13.toInt = 3 + a1.toInt := by rw [ex13, ti_addv kc_3 ha1 (by decide), kt_3]
  have b14 : IV x13 3 9 := by rw [ex13]; exact iv_add kc_3 ha1 (by decide)
  refine al_23 C b14 (by decide) rfl dX12_size_13 ?_
  refine m_topi (fun x15 ex15 => ?_)
  have q16 : x15.toInt = (S.2.2 a1.toInt.toNat).1 := by rw [← (hMA.1.2.2.2 a1.toInt.toNat (by omega)).1, show 0 + (3 + a1.toInt.toNat) = (x13.toInt.toNat) by omega, ← (g10).1 23 0 (x13.toInt.toNat) (by simp) (by decide), show gV τ5 23 0 (x13.toInt.toNat) = x15 from ex15.symm]
  have b17 : IV x15 1 5 := ⟨by omega, by omega⟩
  by_cases s18 : x15.toInt < 3 ∨ 5 < x15.toInt
  · refine m_tableOut (tgt := 90) C dX12_size_14 s18 (by decide) ?_
    refine m_aload_n C dX12_size_90 rfl rfl ?_
    refine m_bipush (v := 11) C dX12_size_91 (by decide) ?_
    refine m_bipush (v := 10) C dX12_size_93 (by decide) ?_
    refine m_iconst (v := 0) C dX12_size_95 (by decide) ?_
    have q19 := kt_11
    have q20 := kt_10
    have q21 := kt_0
    refine m_callV (n := 3) (ci := 11) (st := []) C (c_X12_leavesS l G τ5 (11) (10) (0) i6 (by omega)) (by decide) (by decide) rfl rfl rfl q5_205 q5_202 q5_204 q0_49 q1_7 (by decide +kernel) rfl (by decide) (by decide) rfl (Nat.le_of_ble_eq_true rfl) dX12_size_96 ?_
    rintro _ τ22 ⟨rfl, i23, f24, h28⟩
    have g27 : Fr MS_X12_sizeS AS_X12_sizeS σ τ22 := Fr.call (g10) f24 (by decide)
    have v29 : Tp 22 20 31 σ τ22 [11, 10] := Tp.from (τ := τ5) (by have q := h28.2 (by omega) (by omega); rw [kt_11, kt_10] at q; exact q) (f7.1 22 0 20 (by decide) (by decide)) (fun i => f7.1 31 0 i (by simp) (by decide))
    have q30 := v29.1
    simp only [List.length_cons, List.length_nil] at q30
    have u31 : IV (gV τ22 22 0 20) 0 13 := i23.1 22 0 20
    show MW p l e _ s m args below meth c _ 3 G 0 0 99 [some (.ref (G.1 22 0)), some (.int a1), some (.int x8)] [] τ22
    refine m_iload_n C dX12_size_99 rfl rfl ?_
    refine m_aload_n C dX12_size_100 rfl rfl ?_
    refine m_iload_n C dX12_size_101 rfl rfl ?_
    refine m_callV (n := 1) (ci := 11) (st := [.int x8]) C (c_X12_plainMarkS l G τ22 S I (a1) i23 ha1 (hMA.fr hI (g27) (by decide) (by decide)) (by omega) (by omega) (by omega)) (by decide) (by decide) rfl rfl rfl q5_209 q5_206 q5_208 q0_50 q1_7 (by decide +kernel) rfl (by decide) (by decide) rfl (Nat.le_of_ble_eq_true rfl) dX12_size_102 ?_
    rintro _ τ32 ⟨x35, rfl, i33, f34, b36, h38⟩
    have g37 : Fr MS_X12_sizeS AS_X12_sizeS σ τ32 := Fr.call (g27) f34 (by decide)
    have v39 : Tp 22 20 31 σ τ32 ([11, 10] ++ (mkL (S.2.2 a1.toInt.toNat).1)) := Tp.trans v29 (h38.2) (by omega)
    have q40 := v39.1
    have u41 : IV (gV τ32 22 0 20) 0 13 := i33.1 22 0 20
    have q42 := h38.1
    show MW p l e _ s m args below meth c _ 3 G 0 0 105 [some (.ref (G.1 22 0)), some (.int a1), some (.int x8)] [.int x35, .int x8] τ32
    refine m_iadd C dX12_size_105 ?_
    refine m_topi (fun x43 ex43 => ?_)
    have tx43 : x43.toInt = x8.toInt + x35.toInt := by rw [ex43, ti_addv b9 b36 (by decide)]
    have b44 : IV x43 (-2000) 2040 := by rw [ex43]; exact iv_add b9 b36 (by decide)
    exact m_iret C hr hlk (by decide) (by decide) dX12_size_106 ⟨_, rfl, i33, g37, (iv_wk b44 (by decide)), ((show (S.2.2 a1.toInt.toNat).1 = 1 ∨ (S.2.2 a1.toInt.toNat).1 = 2 by omega).elim (fun hk => by have q := v39; have q2 := q42; rw [hk, mkL_1] at q; rw [hk, mkV_1] at q2; rw [hk, szV_1, szL_1]; exact ⟨by omega, q⟩) (fun hk => by have q := v39; have q2 := q42; rw [hk, mkL_2] at q; rw [hk, mkV_2] at q2; rw [hk, szV_2, szL_2]; exact ⟨by omega, q⟩))⟩
  by_cases s45 : x15.toInt = 3
  · refine m_tableIn (tgt := 71) (off := 57) C dX12_size_14 (by omega) (by omega) (by rw [s45]; rfl) (by decide) ?_
    have b46 : IV x15 3 3 := ⟨by omega, by omega⟩
    refine m_aload_n C dX12_size_71 rfl rfl ?_
    refine m_bipush (v := 12) C dX12_size_72 (by decide) ?_
    refine m_bipush (v := 11) C dX12_size_74 (by decide) ?_
    refine m_bipush (v := 10) C dX12_size_76 (by decide) ?_
    have q47 := kt_12
    have q48 := kt_11
    have q49 := kt_10
    refine m_callV (n := 3) (ci := 11) (st := []) C (c_X12_leavesS l G τ5 (12) (11) (10) i6 (by omega)) (by decide) (by decide) rfl rfl rfl q5_205 q5_202 q5_204 q0_49 q1_7 (by decide +kernel) rfl (by decide) (by decide) rfl (Nat.le_of_ble_eq_true rfl) dX12_size_78 ?_
    rintro _ τ50 ⟨rfl, i51, f52, h56⟩
    have g55 : Fr MS_X12_sizeS AS_X12_sizeS σ τ50 := Fr.call (g10) f52 (by decide)
    have v57 : Tp 22 20 31 σ τ50 [12, 11, 10] := Tp.from (τ := τ5) (by have q := h56.1 (by omega); rw [kt_12, kt_11, kt_10] at q; exact q) (f7.1 22 0 20 (by decide) (by decide)) (fun i => f7.1 31 0 i (by simp) (by decide))
    have q58 := v57.1
    simp only [List.length_cons, List.length_nil] at q58
    have u59 : IV (gV τ50 22 0 20) 0 13 := i51.1 22 0 20
    show MW p l e _ s m args below meth c _ 3 G 0 0 81 [some (.ref (G.1 22 0)), some (.int a1), some (.int x8)] [] τ50
    refine m_iload_n C dX12_size_81 rfl rfl ?_
    refine m_aload_n C dX12_size_82 rfl rfl ?_
    refine m_iload_n C dX12_size_83 rfl rfl ?_
    refine m_callV (n := 1) (ci := 11) (st := [.int x8]) C (c_X12_plainMarkS l G τ50 S I (a1) i51 ha1 (hMA.fr hI (g55) (by decide) (by decide)) (by omega) (by omega) (by omega)) (by decide) (by decide) rfl rfl rfl q5_209 q5_206 q5_208 q0_50 q1_7 (by decide +kernel) rfl (by decide) (by decide) rfl (Nat.le_of_ble_eq_true rfl) dX12_size_84 ?_
    rintro _ τ60 ⟨x63, rfl, i61, f62, b64, h66⟩
    have g65 : Fr MS_X12_sizeS AS_X12_sizeS σ τ60 := Fr.call (g55) f62 (by decide)
    have v67 : Tp 22 20 31 σ τ60 ([12, 11, 10] ++ (mkL (S.2.2 a1.toInt.toNat).1)) := Tp.trans v57 (h66.2) (by omega)
    have q68 := v67.1
    have u69 : IV (gV τ60 22 0 20) 0 13 := i61.1 22 0 20
    have q70 := h66.1
    show MW p l e _ s m args below meth c _ 3 G 0 0 87 [some (.ref (G.1 22 0)), some (.int a1), some (.int x8)] [.int x63, .int x8] τ60
    refine m_iadd C dX12_size_87 ?_
    refine m_topi (fun x71 ex71 => ?_)
    have tx71 : x71.toInt = x8.toInt + x63.toInt := by rw [ex71, ti_addv b9 b64 (by decide)]
    have b72 : IV x71 (-2000) 2040 := by rw [ex71]; exact iv_add b9 b64 (by decide)
    refine m_ineg C dX12_size_88 ?_
    refine m_topi (fun x73 ex73 => ?_)
    have q75 : x73.toInt = -x71.toInt := by rw [ex73]; exact ti_negv b72 (by decide)
    have b74 : IV x73 (-2040) 2000 := ⟨by omega, by omega⟩
    exact m_iret C hr hlk (by decide) (by decide) dX12_size_89 ⟨_, rfl, i61, g65, (iv_wk b74 (by decide)), (by have hk : (S.2.2 a1.toInt.toNat).1 = 3 := (by omega); have q := v67; have q2 := q70; rw [hk, mkL_3] at q; rw [hk, mkV_3] at q2; rw [hk, szV_3, szL_3]; exact ⟨by omega, q⟩)⟩
  by_cases s76 : x15.toInt = 4
  · refine m_tableIn (tgt := 40) (off := 26) C dX12_size_14 (by omega) (by omega) (by rw [s76]; rfl) (by decide) ?_
    have b77 : IV x15 4 4 := ⟨by omega, by omega⟩
    refine m_aload_n C dX12_size_40 rfl rfl ?_
    refine m_bipush (v := 13) C dX12_size_41 (by decide) ?_
    refine m_bipush (v := 10) C dX12_size_43 (by decide) ?_
    refine m_iconst (v := 0) C dX12_size_45 (by decide) ?_
    have q78 := kt_13
    have q79 := kt_10
    have q80 := kt_0
    refine m_callV (n := 3) (ci := 11) (st := []) C (c_X12_leavesS l G τ5 (13) (10) (0) i6 (by omega)) (by decide) (by decide) rfl rfl rfl q5_205 q5_202 q5_204 q0_49 q1_7 (by decide +kernel) rfl (by decide) (by decide) rfl (Nat.le_of_ble_eq_true rfl) dX12_size_46 ?_
    rintro _ τ81 ⟨rfl, i82, f83, h87⟩
    have g86 : Fr MS_X12_sizeS AS_X12_sizeS σ τ81 := Fr.call (g10) f83 (by decide)
    have v88 : Tp 22 20 31 σ τ81 [13, 10] := Tp.from (τ := τ5) (by have q := h87.2 (by omega) (by omega); rw [kt_13, kt_10] at q; exact q) (f7.1 22 0 20 (by decide) (by decide)) (fun i => f7.1 31 0 i (by simp) (by decide))
    have q89 := v88.1
    simp only [List.length_cons, List.length_nil] at q89
    have u90 : IV (gV τ81 22 0 20) 0 13 := i82.1 22 0 20
    show MW p l e _ s m args below meth c _ 3 G 0 0 49 [some (.ref (G.1 22 0)), some (.int a1), some (.int x8)] [] τ81
    refine m_iload_n C dX12_size_49 rfl rfl ?_
    refine m_bipush (v := 100) C dX12_size_50 (by decide) ?_
    refine m_isub C dX12_size_52 ?_
    refine m_topi (fun x91 ex91 => ?_)
    have tx91 : x91.toInt = x8.toInt - 100 := by rw [ex91, ti_subv b9 kc_100 (by decide), kt_100]
    have b92 : IV x91 (-100) (-60) := by rw [ex91]; exact iv_sub b9 kc_100 (by decide)
    exact m_iret C hr hlk (by decide) (by decide) dX12_size_53 ⟨_, rfl, i82, g86, (iv_wk b92 (by decide)), (by have hk : (S.2.2 a1.toInt.toNat).1 = 4 := (by omega); rw [hk, szV_4, szL_4]; exact ⟨by omega, v88⟩)⟩
  by_cases s93 : x15.toInt = 5
  · refine m_tableIn (tgt := 54) (off := 40) C dX12_size_14 (by omega) (by omega) (by rw [s93]; rfl) (by decide) ?_
    have b94 : IV x15 5 5 := ⟨by omega, by omega⟩
    refine m_aload_n C dX12_size_54 rfl rfl ?_
    refine m_bipush (v := 14) C dX12_size_55 (by decide) ?_
    refine m_bipush (v := 13) C dX12_size_57 (by decide) ?_
    refine m_bipush (v := 10) C dX12_size_59 (by decide) ?_
    have q95 := kt_14
    have q96 := kt_13
    have q97 := kt_10
    refine m_callV (n := 3) (ci := 11) (st := []) C (c_X12_leavesS l G τ5 (14) (13) (10) i6 (by omega)) (by decide) (by decide) rfl rfl rfl q5_205 q5_202 q5_204 q0_49 q1_7 (by decide +kernel) rfl (by decide) (by decide) rfl (Nat.le_of_ble_eq_true rfl) dX12_size_61 ?_
    rintro _ τ98 ⟨rfl, i99, f100, h104⟩
    have g103 : Fr MS_X12_sizeS AS_X12_sizeS σ τ98 := Fr.call (g10) f100 (by decide)
    have v105 : Tp 22 20 31 σ τ98 [14, 13, 10] := Tp.from (τ := τ5) (by have q := h104.1 (by omega); rw [kt_14, kt_13, kt_10] at q; exact q) (f7.1 22 0 20 (by decide) (by decide)) (fun i => f7.1 31 0 i (by simp) (by decide))
    have q106 := v105.1
    simp only [List.length_cons, List.length_nil] at q106
    have u107 : IV (gV τ98 22 0 20) 0 13 := i99.1 22 0 20
    show MW p l e _ s m args below meth c _ 3 G 0 0 64 [some (.ref (G.1 22 0)), some (.int a1), some (.int x8)] [] τ98
    refine m_iconst (v := 2) C dX12_size_64 (by decide) ?_
    refine m_iload_n C dX12_size_65 rfl rfl ?_
    refine m_bipush (v := 100) C dX12_size_66 (by decide) ?_
    refine m_isub C dX12_size_68 ?_
    refine m_topi (fun x108 ex108 => ?_)
    have tx108 : x108.toInt = x8.toInt - 100 := by rw [ex108, ti_subv b9 kc_100 (by decide), kt_100]
    have b109 : IV x108 (-100) (-60) := by rw [ex108]; exact iv_sub b9 kc_100 (by decide)
    refine m_imul C dX12_size_69 ?_
    refine m_topi (fun x110 ex110 => ?_)
    have q112 : x110.toInt = 2 * x108.toInt := by rw [ex110]; exact ti_dbl b109 (by decide)
    have b111 : IV x110 (-200) (-120) := ⟨by omega, by omega⟩
    exact m_iret C hr hlk (by decide) (by decide) dX12_size_70 ⟨_, rfl, i99, g103, (iv_wk b111 (by decide)), (by have hk : (S.2.2 a1.toInt.toNat).1 = 5 := (by omega); rw [hk, szV_5, szL_5]; exact ⟨by omega, v105⟩)⟩
  exact absurd s18 (by omega)

abbrev MS_X12_askS : List (Nat × Nat) := [(22, 20)]
abbrev AS_X12_askS : List Nat := [31]
set_option maxHeartbeats 4000000 in
set_option maxRecDepth 100000 in
theorem c_X12_askS (l : Launch) (G : Gt) (σ : Sg) (S : Stt) (I : Nat → Stt) (a1 : Int32) (a2 : Int32) (hI : Inv σ) (hMA : MA σ S I) : Mc l G yX12_ask cX12_ask 3 (some .int) 3 67 0 0 [.ref (G.1 22 0), .int a1, .int a2] σ (PI fun r τ => Inv τ ∧ Fr MS_X12_askS AS_X12_askS σ τ ∧ IV r (-1000001) 3006 ∧ ((((a1.toInt < 0 ∨ S.2.1 ≤ a1.toInt) ∨ a2.toInt < 0 ∨ 1 < a2.toInt) ∧ r.toInt = -1000001 ∧ (gV τ 22 0 20 = gV σ 22 0 20 ∧ ∀ i, gV τ 31 0 i = gV σ 31 0 i)) ∨ ((0 ≤ a1.toInt ∧ a1.toInt < S.2.1) ∧ (0 ≤ a2.toInt ∧ a2.toInt ≤ 1) ∧ r.toInt = asV a2.toInt (S.2.2 a1.toInt.toNat).1 ((a1.toInt.toNat) : Int) (S.2.2 (a1.toInt.toNat)).2.1 (S.2.2 (a1.toInt.toNat)).2.2 ∧ TrI 22 20 31 τ (asL a2.toInt (S.2.2 a1.toInt.toNat).1)))) := by
  refine Mc.of (L0 := [some (.ref (G.1 22 0)), some (.int a1), some (.int a2)]) (by decide) (Nat.le_of_ble_eq_true rfl) rfl ?_
  intro p e s m args below meth c C hr hlk
  have C : Cx p s m args c cX12_ask 3 "LeanTowerModel" := C
  have k0 : (0 : Int32).toInt = 0 := by decide
  have k1 : (1 : Int32).toInt = 1 := by decide
  have u1 : IV (gV σ 22 0 20) 0 13 := hI.1 22 0 20
  have q2 : (gV σ 23 0 2).toInt = S.2.1 := hMA.1.2.2.1
  have q3 := hMA.1.1
  refine m_aload_n C dX12_ask_0 rfl rfl ?_
  refine m_iload_n C dX12_ask_1 rfl rfl ?_
  refine m_callV (n := 1) (ci := 11) (st := []) C (c_X12_isOneS l G σ (a1) hI ) (by decide) (by decide) rfl rfl rfl q5_50 q5_47 q5_49 q0_36 q1_7 (by decide +kernel) rfl (by decide) (by decide) rfl (Nat.le_of_ble_eq_true rfl) dX12_ask_2 ?_
  rintro _ τ4 ⟨x7, rfl, i5, f6, b8, h10⟩
  have g9 : Fr MS_X12_askS AS_X12_askS σ τ4 := Fr.call (Fr.rf) f6 (by decide)
  have q11 : (gV τ4 22 0 20).toInt = (gV σ 22 0 20).toInt := congrArg Int32.toInt (show (gV τ4 22 0 20) = (gV σ 22 0 20) from (show gV τ4 22 0 20 = (gV σ 22 0 20) from (f6.1 22 0 (20) (by decide) (by decide)).trans rfl))
  rcases h10 with ⟨h10_0, h10_1, h10_2⟩ | ⟨h10_0, h10_1⟩
  · skip
    have b12 : IV x7 1 1 := ⟨by omega, by omega⟩
    have b13 : IV a1 0 6 := ⟨by omega, by omega⟩
    show MW p l e _ s m args below meth c _ 3 G 0 0 5 [some (.ref (G.1 22 0)), some (.int a1), some (.int a2)] [.int x7] τ4
    refine m_if_eq (tgt := 18) C dX12_ask_5 (by decide) (fun c14 => ?_) (fun c14 => ?_)
    · exfalso
      have q : _ := c14
      simp only [ti_nle, ti_nlt, ti_le, ti_lt, ti_eq, ti_ne, Classical.not_not, kt_0] at q
      have q1 := b12; have q2 := kc_0; omega
    · have f16 : x7.toInt ≠ 0 := by
        have q : _ := c14
        simp only [ti_nle, ti_nlt, ti_le, ti_lt, ti_eq, ti_ne, Classical.not_not, kt_0] at q
        omega
      refine m_iload_n C dX12_ask_8 rfl rfl ?_
      refine m_i2l C dX12_ask_9 ?_
      refine m_lconst (v := 0) C dX12_ask_10 (by decide) ?_
      refine m_lconst (v := 1) C dX12_ask_11 (by decide) ?_
      refine m_callS (n := 3) (st := []) C (c_X12_in l G τ4 ((a2 : Int32).toInt64) (0) (1) i5 ) q4_190 q4_188 q4_189 q1_7 (by decide +kernel) rfl (by decide) (by decide) rfl (Nat.le_of_ble_eq_true rfl) dX12_ask_12 ?_
      rintro _ τ17 ⟨x20, rfl, i18, f19, b21, h23⟩
      have g22 : Fr MS_X12_askS AS_X12_askS σ τ17 := Fr.call (g9) f19 (by decide)
      have q24 : (gV τ17 22 0 20).toInt = (gV σ 22 0 20).toInt := congrArg Int32.toInt (show (gV τ17 22 0 20) = (gV σ 22 0 20) from (show gV τ17 22 0 20 = (gV σ 22 0 20) from (f19.1 22 0 (20) (by decide) (by decide)).trans (show gV τ4 22 0 20 = (gV σ 22 0 20) from (f6.1 22 0 (20) (by decide) (by decide)).trans rfl)))
      have f25 := tl_i a2
      have f26 := kl_0
      have f27 := kl_1
      rcases h23 with ⟨h23_0, h23_1, h23_2⟩ | ⟨h23_0, h23_1⟩
      · skip
        have b28 : IV x20 1 1 := ⟨by omega, by omega⟩
        show MW p l e _ s m args below meth c _ 3 G 0 0 15 [some (.ref (G.1 22 0)), some (.int a1), some (.int a2)] [.int x20] τ17
        refine m_if_ne (tgt := 21) C dX12_ask_15 (by decide) (fun c29 => ?_) (fun c29 => ?_)
        · have f30 : x20.toInt ≠ 0 := by
            have q : _ := c29
            simp only [ti_nle, ti_nlt, ti_le, ti_lt, ti_eq, ti_ne, Classical.not_not, kt_0] at q
            omega
          have b31 : IV a2 0 1 := ⟨by have q1 := (iv_any a2); omega, by have q1 := (iv_any a2); omega⟩
          have q32 := (hMA.1.2.2.2 (a1.toInt.toNat) (by omega)).2.2.2
          refine m_aload_n C dX12_ask_21 rfl rfl ?_
          refine m_iconst (v := 0) C dX12_ask_22 (by decide) ?_
          refine p_22_20 C q4_136 dX12_ask_23 ?_
          refine m_tops (fun τ33 eτ33 => ?_)
          have i34 : Inv τ33 := eτ33 ▸ Inv.put i18 (by decide) (iv_wk kc_0 (by decide))
          have f35 : Fr MS_X12_askS AS_X12_askS σ τ33 := eτ33 ▸ Fr.put (g22) (Or.inl (by decide))
          refine m_iload_n C dX12_ask_26 rfl rfl ?_
          refine m_if_ne (tgt := 36) C dX12_ask_27 (by decide) (fun c36 => ?_) (fun c36 => ?_)
          · have f37 : a2.toInt ≠ 0 := by
              have q : _ := c36
              simp only [ti_nle, ti_nlt, ti_le, ti_lt, ti_eq, ti_ne, Classical.not_not, kt_0] at q
              omega
            have b38 : IV a2 1 1 := ⟨by have q1 := b31; have q2 := kc_0; omega, by have q1 := b31; have q2 := kc_0; omega⟩
            refine m_aload_n C dX12_ask_36 rfl rfl ?_
            refine g_22_0 C q4_116 dX12_ask_37 ?_
            refine m_iconst (v := 3) C dX12_ask_40 (by decide) ?_
            refine m_iload_n C dX12_ask_41 rfl rfl ?_
            refine m_iadd C dX12_ask_42 ?_
            refine m_topi (fun x39 ex39 => ?_)
            have tx39 : x39.toInt = 3 + a1.toInt := by rw [ex39, ti_addv kc_3 b13 (by decide), kt_3]
            have b40 : IV x39 3 9 := by rw [ex39]; exact iv_add kc_3 b13 (by decide)
            refine al_23 C b40 (by decide) rfl dX12_ask_43 ?_
            refine m_topi (fun x41 ex41 => ?_)
            have q42 : x41.toInt = (S.2.2 a1.toInt.toNat).1 := by rw [← (hMA.1.2.2.2 a1.toInt.toNat (by omega)).1, show 0 + (3 + a1.toInt.toNat) = (x39.toInt.toNat) by omega, ← (f35).1 23 0 (x39.toInt.toNat) (by simp) (by decide), show gV τ33 23 0 (x39.toInt.toNat) = x41 from ex41.symm]
            have b43 : IV x41 1 5 := ⟨by omega, by omega⟩
            refine m_iconst (v := 4) C dX12_ask_44 (by decide) ?_
            refine m_icmp_ge (tgt := 54) C dX12_ask_45 (by decide) (fun c44 => ?_) (fun c44 => ?_)
            · have f45 : 4 ≤ x41.toInt := by
                have q : _ := c44
                simp only [ti_nle, ti_nlt, ti_le, ti_lt, ti_eq, ti_ne, Classical.not_not, kt_4] at q
                omega
              have b46 : IV x41 4 5 := ⟨by have q1 := kc_4; have q2 := b43; omega, by have q1 := kc_4; have q2 := b43; omega⟩
              refine m_aload_n C dX12_ask_54 rfl rfl ?_
              refine m_bipush (v := 23) C dX12_ask_55 (by decide) ?_
              refine m_bipush (v := 20) C dX12_ask_57 (by decide) ?_
              refine m_iconst (v := 0) C dX12_ask_59 (by decide) ?_
              have q47 : (gV τ33 22 0 20).toInt = 0 := (congrArg Int32.toInt (show (gV τ33 22 0 20) = 0 from (show gV τ33 22 0 20 = 0 from gV_put eτ33 (gV_self _ _ _ _ _)))).trans kt_0
              have q48 := kt_23
              have q49 := kt_20
              have q50 := kt_0
              refine m_callV (n := 3) (ci := 11) (st := []) C (c_X12_leavesS l G τ33 (23) (20) (0) i34 (by omega)) (by decide) (by decide) rfl rfl rfl q5_205 q5_202 q5_204 q0_49 q1_7 (by decide +kernel) rfl (by decide) (by decide) rfl (Nat.le_of_ble_eq_true rfl) dX12_ask_60 ?_
              rintro _ τ51 ⟨rfl, i52, f53, h57⟩
              have g56 : Fr MS_X12_askS AS_X12_askS σ τ51 := Fr.call (f35) f53 (by decide)
              have v58 : Tp 22 20 31 τ33 τ51 [23, 20] := by have q := h57.2 (by omega) (by omega); rw [kt_23, kt_20] at q; exact q
              have q59 := v58.1
              simp only [List.length_cons, List.length_nil] at q59
              have u60 : IV (gV τ51 22 0 20) 0 13 := i52.1 22 0 20
              show MW p l e _ s m args below meth c _ 3 G 0 0 63 [some (.ref (G.1 22 0)), some (.int a1), some (.int a2)] [] τ51
              refine m_iload_n C dX12_ask_63 rfl rfl ?_
              refine m_aload_n C dX12_ask_64 rfl rfl ?_
              refine m_iload_n C dX12_ask_65 rfl rfl ?_
              refine m_callV (n := 1) (ci := 11) (st := [.int a1]) C (c_X12_sizeS l G τ51 S I (a1) i52 b13 (hMA.fr hI (g56) (by decide) (by decide)) (by omega) (by omega)) (by decide) (by decide) rfl rfl rfl q5_201 q5_198 q5_200 q0_48 q1_7 (by decide +kernel) rfl (by decide) (by decide) rfl (Nat.le_of_ble_eq_true rfl) dX12_ask_66 ?_
              rintro _ τ61 ⟨x64, rfl, i62, f63, b65, h67⟩
              have g66 : Fr MS_X12_askS AS_X12_askS σ τ61 := Fr.call (g56) f63 (by decide)
              have v68 : Tp 22 20 31 τ33 τ61 ([23, 20] ++ (szL (S.2.2 a1.toInt.toNat).1)) := Tp.trans v58 (h67.2) (by omega)
              have q69 := v68.1
              have u70 : IV (gV τ61 22 0 20) 0 13 := i62.1 22 0 20
              have q71 := h67.1
              show MW p l e _ s m args below meth c _ 3 G 0 0 69 [some (.ref (G.1 22 0)), some (.int a1), some (.int a2)] [.int x64, .int a1] τ61
              refine m_isub C dX12_ask_69 ?_
              refine m_topi (fun x72 ex72 => ?_)
              have tx72 : x72.toInt = a1.toInt - x64.toInt := by rw [ex72, ti_subv b13 b65 (by decide)]
              have b73 : IV x72 (-3000) 3006 := by rw [ex72]; exact iv_sub b13 b65 (by decide)
              exact m_iret C hr hlk (by decide) (by decide) dX12_ask_70 ⟨_, rfl, i62, g66, (iv_wk b73 (by decide)), (Or.inr ⟨by omega, by omega, (show (S.2.2 a1.toInt.toNat).1 = 4 ∨ (S.2.2 a1.toInt.toNat).1 = 5 by omega).elim (fun hk => by have q := v68.is (by omega); have q2 := q71; rw [hk, szL_4] at q; rw [hk, szV_4] at q2; rw [show a2.toInt = 1 by omega, asV_1, asL_1, hk, mkV_4, mkL_4]; exact ⟨by omega, q⟩) (fun hk => by have q := v68.is (by omega); have q2 := q71; rw [hk, szL_5] at q; rw [hk, szV_5] at q2; rw [show a2.toInt = 1 by omega, asV_1, asL_1, hk, mkV_5, mkL_5]; exact ⟨by omega, q⟩)⟩)⟩
            · have f74 : x41.toInt < 4 := by
                have q : _ := c44
                simp only [ti_nle, ti_nlt, ti_le, ti_lt, ti_eq, ti_ne, Classical.not_not, kt_4] at q
                omega
              have b75 : IV x41 1 3 := ⟨by have q1 := b43; have q2 := kc_4; omega, by have q1 := b43; have q2 := kc_4; omega⟩
              refine m_aload_n C dX12_ask_48 rfl rfl ?_
              refine m_iload_n C dX12_ask_49 rfl rfl ?_
              have q76 : (gV τ33 22 0 20).toInt = 0 := (congrArg Int32.toInt (show (gV τ33 22 0 20) = 0 from (show gV τ33 22 0 20 = 0 from gV_put eτ33 (gV_self _ _ _ _ _)))).trans kt_0
              refine m_callV (n := 1) (ci := 11) (st := []) C (c_X12_plainMarkS l G τ33 S I (a1) i34 b13 (hMA.fr hI (f35) (by decide) (by decide)) (by omega) (by omega) (by omega)) (by decide) (by decide) rfl rfl rfl q5_209 q5_206 q5_208 q0_50 q1_7 (by decide +kernel) rfl (by decide) (by decide) rfl (Nat.le_of_ble_eq_true rfl) dX12_ask_50 ?_
              rintro _ τ77 ⟨x80, rfl, i78, f79, b81, h83⟩
              have g82 : Fr MS_X12_askS AS_X12_askS σ τ77 := Fr.call (f35) f79 (by decide)
              have v84 : Tp 22 20 31 τ33 τ77 (mkL (S.2.2 a1.toInt.toNat).1) := h83.2
              have q85 := v84.1
              have u86 : IV (gV τ77 22 0 20) 0 13 := i78.1 22 0 20
              have q87 := h83.1
              show MW p l e _ s m args below meth c _ 3 G 0 0 53 [some (.ref (G.1 22 0)), some (.int a1), some (.int a2)] [.int x80] τ77
              exact m_iret C hr hlk (by decide) (by decide) dX12_ask_53 ⟨_, rfl, i78, g82, (iv_wk b81 (by decide)), (Or.inr ⟨by omega, by omega, by rw [show a2.toInt = 1 by omega, asV_1]; exact q87, by rw [show a2.toInt = 1 by omega, asL_1]; exact v84.is (by omega)⟩)⟩
          · have f88 : a2.toInt = 0 := by
              have q : _ := c36
              simp only [ti_nle, ti_nlt, ti_le, ti_lt, ti_eq, ti_ne, Classical.not_not, kt_0] at q
              omega
            have b89 : IV a2 0 0 := ⟨by have q1 := b31; have q2 := kc_0; omega, by have q1 := b31; have q2 := kc_0; omega⟩
            refine m_aload_n C dX12_ask_30 rfl rfl ?_
            refine m_iload_n C dX12_ask_31 rfl rfl ?_
            have q90 : (gV τ33 22 0 20).toInt = 0 := (congrArg Int32.toInt (show (gV τ33 22 0 20) = 0 from (show gV τ33 22 0 20 = 0 from gV_put eτ33 (gV_self _ _ _ _ _)))).trans kt_0
            refine m_callV (n := 1) (ci := 11) (st := []) C (c_X12_sizeS l G τ33 S I (a1) i34 b13 (hMA.fr hI (f35) (by decide) (by decide)) (by omega) (by omega)) (by decide) (by decide) rfl rfl rfl q5_201 q5_198 q5_200 q0_48 q1_7 (by decide +kernel) rfl (by decide) (by decide) rfl (Nat.le_of_ble_eq_true rfl) dX12_ask_32 ?_
            rintro _ τ91 ⟨x94, rfl, i92, f93, b95, h97⟩
            have g96 : Fr MS_X12_askS AS_X12_askS σ τ91 := Fr.call (f35) f93 (by decide)
            have v98 : Tp 22 20 31 τ33 τ91 (szL (S.2.2 a1.toInt.toNat).1) := h97.2
            have q99 := v98.1
            have u100 : IV (gV τ91 22 0 20) 0 13 := i92.1 22 0 20
            have q101 := h97.1
            show MW p l e _ s m args below meth c _ 3 G 0 0 35 [some (.ref (G.1 22 0)), some (.int a1), some (.int a2)] [.int x94] τ91
            exact m_iret C hr hlk (by decide) (by decide) dX12_ask_35 ⟨_, rfl, i92, g96, (iv_wk b95 (by decide)), (Or.inr ⟨by omega, by omega, by rw [show a2.toInt = 0 by omega, asV_0]; exact q101, by rw [show a2.toInt = 0 by omega, asL_0]; exact v98.is (by omega)⟩)⟩
        · exfalso
          have q : _ := c29
          simp only [ti_nle, ti_nlt, ti_le, ti_lt, ti_eq, ti_ne, Classical.not_not, kt_0] at q
          have q1 := b28; have q2 := kc_0; omega
      · skip
        have b103 : IV x20 0 0 := ⟨by omega, by omega⟩
        show MW p l e _ s m args below meth c _ 3 G 0 0 15 [some (.ref (G.1 22 0)), some (.int a1), some (.int a2)] [.int x20] τ17
        refine m_if_ne (tgt := 21) C dX12_ask_15 (by decide) (fun c104 => ?_) (fun c104 => ?_)
        · exfalso
          have q : _ := c104
          simp only [ti_nle, ti_nlt, ti_le, ti_lt, ti_eq, ti_ne, Classical.not_not, kt_0] at q
          have q1 := b103; have q2 := kc_0; omega
        · have f106 : x20.toInt = 0 := by
            have q : _ := c104
            simp only [ti_nle, ti_nlt, ti_le, ti_lt, ti_eq, ti_ne, Classical.not_not, kt_0] at q
            omega
          refine m_ldc (v := (-1000001)) C dX12_ask_18 q4_192 ?_
          exact m_iret C hr hlk (by decide) (by decide) dX12_ask_20 ⟨_, rfl, i18, g22, (iv_wk kc_m1000001 (by decide)), (Or.inl ⟨by omega, kt_m1000001, ((f19.1 22 0 20 (by decide) (by decide)).trans ((f6.1 22 0 20 (by decide) (by decide)).trans rfl)), fun i => ((f19.1 31 0 i (by simp) (by decide)).trans ((f6.1 31 0 i (by simp) (by decide)).trans rfl))⟩)⟩
  · skip
    have b107 : IV x7 0 0 := ⟨by omega, by omega⟩
    show MW p l e _ s m args below meth c _ 3 G 0 0 5 [some (.ref (G.1 22 0)), some (.int a1), some (.int a2)] [.int x7] τ4
    refine m_if_eq (tgt := 18) C dX12_ask_5 (by decide) (fun c108 => ?_) (fun c108 => ?_)
    · have f109 : x7.toInt = 0 := by
        have q : _ := c108
        simp only [ti_nle, ti_nlt, ti_le, ti_lt, ti_eq, ti_ne, Classical.not_not, kt_0] at q
        omega
      refine m_ldc (v := (-1000001)) C dX12_ask_18 q4_192 ?_
      exact m_iret C hr hlk (by decide) (by decide) dX12_ask_20 ⟨_, rfl, i5, g9, (iv_wk kc_m1000001 (by decide)), (Or.inl ⟨by omega, kt_m1000001, ((f6.1 22 0 20 (by decide) (by decide)).trans rfl), fun i => ((f6.1 31 0 i (by simp) (by decide)).trans rfl)⟩)⟩
    · exfalso
      have q : _ := c108
      simp only [ti_nle, ti_nlt, ti_le, ti_lt, ti_eq, ti_ne, Classical.not_not, kt_0] at q
      have q1 := b107; have q2 := kc_0; omega

abbrev MS_X11_traceS : List (Nat × Nat) := []
abbrev AS_X11_traceS : List Nat := []
set_option maxHeartbeats 4000000 in
set_option maxRecDepth 100000 in
theorem c_X11_traceS (l : Launch) (G : Gt) (σ : Sg) (a1 : Int32) (hI : Inv σ) : Mc l G yX11_trace cX11_trace 2 (some .int) 0 0 0 0 [.ref (G.1 0 0), .int a1] σ (PI fun r τ => Inv τ ∧ Fr MS_X11_traceS AS_X11_traceS σ τ ∧ IV r (-2147483648) 2147483647 ∧ (((a1.toInt < 0 ∨ (gV σ 14 0 1).toInt ≤ a1.toInt) ∧ r.toInt = -1000000) ∨ (0 ≤ a1.toInt ∧ a1.toInt < (gV σ 14 0 1).toInt ∧ r.toInt = (gV σ 15 0 (a1.toInt.toNat)).toInt))) := by
  refine Mc.of (L0 := [some (.ref (G.1 0 0)), some (.int a1)]) (by decide) (Nat.le_of_ble_eq_true rfl) rfl ?_
  intro p e s m args below meth c C hr hlk
  have C : Cx p s m args c cX11_trace 2 "LeanTower" := C
  have k0 : (0 : Int32).toInt = 0 := by decide
  have k1 : (1 : Int32).toInt = 1 := by decide
  have u1 : IV (gV σ 14 0 1) 0 16 := hI.1 14 0 1
  refine m_iload_n C dX11_trace_0 rfl rfl ?_
  refine m_if_lt (tgt := 15) C dX11_trace_1 (by decide) (fun c2 => ?_) (fun c2 => ?_)
  · have f3 : a1.toInt < 0 := by
      have q : _ := c2
      simp only [ti_nle, ti_nlt, ti_le, ti_lt, ti_eq, ti_ne, Classical.not_not, kt_0] at q
      omega
    have b4 : IV a1 (-2147483648) (-1) := ⟨by have q1 := (iv_any a1); have q2 := kc_0; omega, by have q1 := (iv_any a1); have q2 := kc_0; omega⟩
    refine m_ldc (v := (-1000000)) C dX11_trace_15 q3_43 ?_
    refine m_goto (tgt := 29) C dX11_trace_17 (by decide) ?_
    exact m_iret C hr hlk (by decide) (by decide) dX11_trace_29 ⟨_, rfl, hI, Fr.rf, (iv_wk kc_m1000000 (by decide)), (Or.inl ⟨by omega, kt_m1000000⟩)⟩
  · have f5 : 0 ≤ a1.toInt := by
      have q : _ := c2
      simp only [ti_nle, ti_nlt, ti_le, ti_lt, ti_eq, ti_ne, Classical.not_not, kt_0] at q
      omega
    have b6 : IV a1 0 2147483647 := ⟨by have q1 := kc_0; have q2 := (iv_any a1); omega, by have q1 := kc_0; have q2 := (iv_any a1); omega⟩
    refine m_iload_n C dX11_trace_4 rfl rfl ?_
    refine m_aload_n C dX11_trace_5 rfl rfl ?_
    refine g_0_8 C q1_194 dX11_trace_6 ?_
    refine g_14_1 C q1_137 dX11_trace_9 ?_
    refine m_eqs (w := (gV σ 14 0 1)) rfl ?_
    refine m_icmp_lt (tgt := 20) C dX11_trace_12 (by decide) (fun c7 => ?_) (fun c7 => ?_)
    · have f8 : a1.toInt < (gV σ 14 0 1).toInt := by
        have q : _ := c7
        simp only [ti_nle, ti_nlt, ti_le, ti_lt, ti_eq, ti_ne, Classical.not_not] at q
        omega
      have b9 : IV a1 0 15 := ⟨by have q1 := b6; have q2 := u1; omega, by have q1 := b6; have q2 := u1; omega⟩
      have b10 : IV (gV σ 14 0 1) 1 16 := ⟨by have q1 := b6; have q2 := u1; omega, by have q1 := b6; have q2 := u1; omega⟩
      refine m_aload_n C dX11_trace_20 rfl rfl ?_
      refine g_0_8 C q1_194 dX11_trace_21 ?_
      refine g_14_0 C q1_135 dX11_trace_24 ?_
      refine m_iload_n C dX11_trace_27 rfl rfl ?_
      refine al_15 C b9 (by decide) rfl dX11_trace_28 ?_
      refine m_topi (fun x11 ex11 => ?_)
      exact m_iret C hr hlk (by decide) (by decide) dX11_trace_29 ⟨_, rfl, hI, Fr.rf, (iv_any x11), (Or.inr ⟨by omega, by omega, by rw [ex11]⟩)⟩
    · have f12 : (gV σ 14 0 1).toInt ≤ a1.toInt := by
        have q : _ := c7
        simp only [ti_nle, ti_nlt, ti_le, ti_lt, ti_eq, ti_ne, Classical.not_not] at q
        omega
      refine m_ldc (v := (-1000000)) C dX11_trace_15 q3_43 ?_
      refine m_goto (tgt := 29) C dX11_trace_17 (by decide) ?_
      exact m_iret C hr hlk (by decide) (by decide) dX11_trace_29 ⟨_, rfl, hI, Fr.rf, (iv_wk kc_m1000000 (by decide)), (Or.inl ⟨by omega, kt_m1000000⟩)⟩

abbrev MS_X12_traceS : List (Nat × Nat) := []
abbrev AS_X12_traceS : List Nat := []
set_option maxHeartbeats 4000000 in
set_option maxRecDepth 100000 in
theorem c_X12_traceS (l : Launch) (G : Gt) (σ : Sg) (a1 : Int32) (hI : Inv σ) : Mc l G yX12_trace cX12_trace 2 (some .int) 1 25 0 0 [.ref (G.1 22 0), .int a1] σ (PI fun r τ => Inv τ ∧ Fr MS_X12_traceS AS_X12_traceS σ τ ∧ IV r (-2147483648) 2147483647 ∧ (((a1.toInt < 0 ∨ (gV σ 22 0 20).toInt ≤ a1.toInt) ∧ r.toInt = -1000000) ∨ (0 ≤ a1.toInt ∧ a1.toInt < (gV σ 22 0 20).toInt ∧ r.toInt = (gV σ 31 0 (a1.toInt.toNat)).toInt))) := by
  refine Mc.of (L0 := [some (.ref (G.1 22 0)), some (.int a1)]) (by decide) (Nat.le_of_ble_eq_true rfl) rfl ?_
  intro p e s m args below meth c C hr hlk
  have C : Cx p s m args c cX12_trace 2 "LeanTowerModel" := C
  have k0 : (0 : Int32).toInt = 0 := by decide
  have k1 : (1 : Int32).toInt = 1 := by decide
  have u1 : IV (gV σ 22 0 20) 0 13 := hI.1 22 0 20
  refine m_iload_n C dX12_trace_0 rfl rfl ?_
  refine m_i2l C dX12_trace_1 ?_
  refine m_lconst (v := 0) C dX12_trace_2 (by decide) ?_
  refine m_aload_n C dX12_trace_3 rfl rfl ?_
  refine g_22_20 C q4_136 dX12_trace_4 ?_
  refine m_eqs (w := (gV σ 22 0 20)) rfl ?_
  refine m_iconst (v := 1) C dX12_trace_7 (by decide) ?_
  refine m_isub C dX12_trace_8 ?_
  refine m_topi (fun x2 ex2 => ?_)
  have tx2 : x2.toInt = (gV σ 22 0 20).toInt - 1 := by rw [ex2, ti_subv u1 kc_1 (by decide), kt_1]
  have b3 : IV x2 (-1) 12 := by rw [ex2]; exact iv_sub u1 kc_1 (by decide)
  refine m_i2l C dX12_trace_9 ?_
  refine m_callS (n := 3) (st := []) C (c_X12_in l G σ ((a1 : Int32).toInt64) (0) ((x2 : Int32).toInt64) hI ) q4_190 q4_188 q4_189 q1_7 (by decide +kernel) rfl (by decide) (by decide) rfl (Nat.le_of_ble_eq_true rfl) dX12_trace_10 ?_
  rintro _ τ4 ⟨x7, rfl, i5, f6, b8, h10⟩
  have g9 : Fr MS_X12_traceS AS_X12_traceS σ τ4 := Fr.call (Fr.rf) f6 (by decide)
  have q11 : (gV τ4 22 0 20).toInt = (gV σ 22 0 20).toInt := congrArg Int32.toInt (show (gV τ4 22 0 20) = (gV σ 22 0 20) from (show gV τ4 22 0 20 = (gV σ 22 0 20) from (f6.1 22 0 (20) (by decide) (by decide)).trans rfl))
  have f12 := tl_i a1
  have f13 := kl_0
  have f14 := tl_i x2
  have q15 := b3
  rcases h10 with ⟨h10_0, h10_1, h10_2⟩ | ⟨h10_0, h10_1⟩
  · skip
    have b16 : IV x7 1 1 := ⟨by omega, by omega⟩
    show MW p l e _ s m args below meth c _ 2 G 0 0 13 [some (.ref (G.1 22 0)), some (.int a1)] [.int x7] τ4
    refine m_if_eq (tgt := 25) C dX12_trace_13 (by decide) (fun c17 => ?_) (fun c17 => ?_)
    · exfalso
      have q : _ := c17
      simp only [ti_nle, ti_nlt, ti_le, ti_lt, ti_eq, ti_ne, Classical.not_not, kt_0] at q
      have q1 := b16; have q2 := kc_0; omega
    · have f19 : x7.toInt ≠ 0 := by
        have q : _ := c17
        simp only [ti_nle, ti_nlt, ti_le, ti_lt, ti_eq, ti_ne, Classical.not_not, kt_0] at q
        omega
      have b20 : IV a1 0 12 := ⟨by have q1 := (iv_any a1); omega, by have q1 := (iv_any a1); omega⟩
      refine m_aload_n C dX12_trace_16 rfl rfl ?_
      refine g_22_19 C q4_135 dX12_trace_17 ?_
      refine m_iload_n C dX12_trace_20 rfl rfl ?_
      refine al_31 C b20 (by decide) rfl dX12_trace_21 ?_
      refine m_topi (fun x21 ex21 => ?_)
      refine m_goto (tgt := 27) C dX12_trace_22 (by decide) ?_
      exact m_iret C hr hlk (by decide) (by decide) dX12_trace_27 ⟨_, rfl, i5, g9, (iv_any x21), (Or.inr ⟨by omega, by omega, by rw [ex21, (g9).1 31 0 _ (by simp) (by decide)]⟩)⟩
  · skip
    have b22 : IV x7 0 0 := ⟨by omega, by omega⟩
    show MW p l e _ s m args below meth c _ 2 G 0 0 13 [some (.ref (G.1 22 0)), some (.int a1)] [.int x7] τ4
    refine m_if_eq (tgt := 25) C dX12_trace_13 (by decide) (fun c23 => ?_) (fun c23 => ?_)
    · have f24 : x7.toInt = 0 := by
        have q : _ := c23
        simp only [ti_nle, ti_nlt, ti_le, ti_lt, ti_eq, ti_ne, Classical.not_not, kt_0] at q
        omega
      refine m_ldc (v := (-1000000)) C dX12_trace_25 q5_70 ?_
      exact m_iret C hr hlk (by decide) (by decide) dX12_trace_27 ⟨_, rfl, i5, g9, (iv_wk kc_m1000000 (by decide)), (Or.inl ⟨by omega, kt_m1000000⟩)⟩
    · exfalso
      have q : _ := c23
      simp only [ti_nle, ti_nlt, ti_le, ti_lt, ti_eq, ti_ne, Classical.not_not, kt_0] at q
      have q1 := b22; have q2 := kc_0; omega
