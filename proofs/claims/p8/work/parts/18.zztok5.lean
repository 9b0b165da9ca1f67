abbrev MS_X6_readStoneE : List (Nat × Nat) := [(1, 3), (12, 2), (12, 3), (12, 4), (12, 5), (12, 6), (12, 7)]
abbrev AS_X6_readStoneE : List Nat := [4, 5]
set_option maxHeartbeats 4000000 in
set_option maxRecDepth 100000 in
theorem c_X6_readStoneE (l : Launch) (G : Gt) (σ : Sg) (T : Nat → Int) (N : Nat) (i : Nat) (cc : Int) {j2 : Nat} (hj2 : j2 < 28) (hI : Inv σ) (hT : TpC σ T N) (hcur : ((gV σ 12 0 4).toInt = (tS T i : Int) ∧ (gV σ 12 0 5).toInt = (tE T N i : Int) ∧ (gV σ 12 0 6).toInt = tK T N i ∧ (tK T N i = 2 → (gV σ 12 0 7).toInt = tV T i))) (hst : (gV σ 1 j2 3).toInt = cc) : Mc l G yX6_readStone cX6_readStone 4 (some .boolean) 4 83 0 0 [.ref (G.1 12 0), .ref (G.1 1 j2)] σ (PI fun r τ => Inv τ ∧ Fr MS_X6_readStoneE AS_X6_readStoneE σ τ ∧ IV r 0 1 ∧ ((r.toInt = 0 ∧ stoF T N cc i ≠ 0 ∧ (gV τ 12 0 2).toInt = stoF T N cc i ∧ ((gV τ 12 0 3).toInt = stoP T N cc i ∧ 0 ≤ (gV τ 12 0 3).toInt ∧ (gV τ 12 0 3).toInt ≤ 400)) ∨ (r.toInt = 1 ∧ stoF T N cc i = 0 ∧ (gV τ 12 0 2).toInt = (gV σ 12 0 2).toInt ∧ (gV τ 1 j2 3).toInt = cc + 1 ∧ ((gV τ 12 0 4).toInt = (tS T (tE T N (tE T N (tE T N (tE T N i)))) : Int) ∧ (gV τ 12 0 5).toInt = (tE T N (tE T N (tE T N (tE T N (tE T N i)))) : Int) ∧ (gV τ 12 0 6).toInt = tK T N (tE T N (tE T N (tE T N (tE T N i)))) ∧ (tK T N (tE T N (tE T N (tE T N (tE T N i)))) = 2 → (gV τ 12 0 7).toInt = tV T (tE T N (tE T N (tE T N (tE T N i))))))))) := by
  refine Mc.of (L0 := [some (.ref (G.1 12 0)), some (.ref (G.1 1 j2)), none, none]) (by decide) (Nat.le_of_ble_eq_true rfl) rfl ?_
  intro p e s m args below meth c C hr hlk
  have C : Cx p s m args c cX6_readStone 4 "LeanTower$Reader" := C
  have k0 : (0 : Int32).toInt = 0 := by decide
  have k1 : (1 : Int32).toInt = 1 := by decide
  have u1 : IV (gV σ 1 j2 3) 0 4 := hI.1 1 j2 3
  have u2 : IV (gV σ 12 0 4) 0 400 := hI.1 12 0 4
  have u3 : IV (gV σ 12 0 5) 0 400 := hI.1 12 0 5
  refine m_aload_n C dX6_readStone_0 rfl rfl ?_
  refine g_1_3 C hj2 q1_84 dX6_readStone_1 ?_
  refine m_eqs (w := (gV σ 1 j2 3)) rfl ?_
  refine m_iconst (v := 4) C dX6_readStone_4 (by decide) ?_
  refine m_icmp_lt (tgt := 14) C dX6_readStone_5 (by decide) (fun c4 => ?_) (fun c4 => ?_)
  · have f5 : (gV σ 1 j2 3).toInt < 4 := by
      have q : _ := c4
      simp only [ti_nle, ti_nlt, ti_le, ti_lt, ti_eq, ti_ne, Classical.not_not, kt_4] at q
      omega
    have b6 : IV (gV σ 1 j2 3) 0 3 := ⟨by have q1 := u1; have q2 := kc_4; omega, by have q1 := u1; have q2 := kc_4; omega⟩
    refine m_aload_n C dX6_readStone_14 rfl rfl ?_
    refine m_callV (n := 0) (ci := 5) (st := []) C (c_X6_nextE l G σ T N (tE T N i)  hI hT (by omega)) (by decide) (by decide) rfl rfl rfl q2_63 q2_60 q2_62 q0_3 q1_2 (by decide +kernel) rfl (by decide) (by decide) rfl (Nat.le_of_ble_eq_true rfl) dX6_readStone_15 ?_
    rintro _ τ7 ⟨rfl, i8, f9, h13⟩
    have g12 : Fr MS_X6_readStoneE AS_X6_readStoneE σ τ7 := Fr.call (Fr.rf) f9 (by decide)
    clear hcur
    have v14 : TpC τ7 T N := hT.fr f9 (by decide) (by decide) (by simp) (by decide)
    have u15 : IV (gV τ7 12 0 4) 0 400 := i8.1 12 0 4
    have u16 : IV (gV τ7 12 0 5) 0 400 := i8.1 12 0 5
    have q17 : (gV τ7 1 j2 3).toInt = (gV σ 1 j2 3).toInt := congrArg Int32.toInt (show (gV τ7 1 j2 3) = (gV σ 1 j2 3) from (show gV τ7 1 j2 3 = (gV σ 1 j2 3) from (f9.1 1 j2 (3) (by decide) (by decide)).trans rfl))
    have q18 : (gV τ7 12 0 2).toInt = (gV σ 12 0 2).toInt := congrArg Int32.toInt (show (gV τ7 12 0 2) = (gV σ 12 0 2) from (show gV τ7 12 0 2 = (gV σ 12 0 2) from (f9.1 12 0 (2) (by decide) (by decide)).trans rfl))
    have q19 : (gV τ7 12 0 3).toInt = (gV σ 12 0 3).toInt := congrArg Int32.toInt (show (gV τ7 12 0 3) = (gV σ 12 0 3) from (show gV τ7 12 0 3 = (gV σ 12 0 3) from (f9.1 12 0 (3) (by decide) (by decide)).trans rfl))
    show MW p l e _ s m args below meth c _ 4 G 0 0 18 [some (.ref (G.1 12 0)), some (.ref (G.1 1 j2)), none, none] [] τ7
    refine m_aload_n C dX6_readStone_18 rfl rfl ?_
    refine m_iconst (v := 1) C dX6_readStone_19 (by decide) ?_
    refine m_bipush (v := 20) C dX6_readStone_20 (by decide) ?_
    have q20 := kt_1
    have q21 := kt_20
    refine m_callV (n := 2) (ci := 5) (st := []) C (c_X6_numberE l G τ7 T N (tE T N i) (1) (20) i8 v14 (by omega)) (by decide) (by decide) rfl rfl rfl q2_145 q2_142 q2_144 q0_9 q1_2 (by decide +kernel) rfl (by decide) (by decide) rfl (Nat.le_of_ble_eq_true rfl) dX6_readStone_22 ?_
    rintro _ τ22 ⟨x25, rfl, i23, f24, b26, h28⟩
    have g27 : Fr MS_X6_readStoneE AS_X6_readStoneE σ τ22 := Fr.call (g12) f24 (by decide)
    clear h13
    have v29 : TpC τ22 T N := v14.fr f24 (by decide) (by decide) (by simp) (by decide)
    have u30 : IV (gV τ22 12 0 4) 0 400 := i23.1 12 0 4
    have u31 : IV (gV τ22 12 0 5) 0 400 := i23.1 12 0 5
    have q32 : (gV τ22 1 j2 3).toInt = (gV σ 1 j2 3).toInt := congrArg Int32.toInt (show (gV τ22 1 j2 3) = (gV σ 1 j2 3) from (show gV τ22 1 j2 3 = (gV σ 1 j2 3) from (f24.1 1 j2 (3) (by decide) (by decide)).trans (show gV τ7 1 j2 3 = (gV σ 1 j2 3) from (f9.1 1 j2 (3) (by decide) (by decide)).trans rfl)))
    rcases h28 with ⟨h28_0, h28_1, h28_2, h28_3⟩ | ⟨h28_0, h28_1, h28_2, h28_3, h28_4⟩ | ⟨h28_0, h28_1, h28_2, h28_3, h28_4, h28_5⟩
    · skip
      have b33 : IV x25 (-1) (-1) := ⟨by omega, by omega⟩
      show MW p l e _ s m args below meth c _ 4 G 0 0 25 [some (.ref (G.1 12 0)), some (.ref (G.1 1 j2)), none, none] [.int x25] τ22
      refine m_istore_n (L1 := [some (.ref (G.1 12 0)), some (.ref (G.1 1 j2)), some (.int x25), none]) C dX6_readStone_25 rfl (by decide) rfl rfl ?_
      refine m_iload_n C dX6_readStone_26 rfl rfl ?_
      refine m_iconst (v := (-1)) C dX6_readStone_27 (by decide) ?_
      refine m_icmp_ne (tgt := 33) C dX6_readStone_28 (by decide) (fun c34 => ?_) (fun c34 => ?_)
      · exfalso
        have q : _ := c34
        simp only [ti_nle, ti_nlt, ti_le, ti_lt, ti_eq, ti_ne, Classical.not_not, kt_m1] at q
        have q1 := b33; have q2 := kc_m1; omega
      · have f36 : x25.toInt = -1 := by
          have q : _ := c34
          simp only [ti_nle, ti_nlt, ti_le, ti_lt, ti_eq, ti_ne, Classical.not_not, kt_m1] at q
          omega
        refine m_iconst (v := 0) C dX6_readStone_31 (by decide) ?_
        exact m_zret C hr rfl hlk (by decide) (by decide) dX6_readStone_32 ⟨_, rfl, i23, g27, (iv_wk kc_0 (by decide)), (by have qd := sto_1 T N cc i (by omega) (by omega); have qk := kt_0; refine Or.inl ⟨by omega, by omega, by omega, by omega⟩)⟩
    · skip
      have b37 : IV x25 (-1) (-1) := ⟨by omega, by omega⟩
      show MW p l e _ s m args below meth c _ 4 G 0 0 25 [some (.ref (G.1 12 0)), some (.ref (G.1 1 j2)), none, none] [.int x25] τ22
      refine m_istore_n (L1 := [some (.ref (G.1 12 0)), some (.ref (G.1 1 j2)), some (.int x25), none]) C dX6_readStone_25 rfl (by decide) rfl rfl ?_
      refine m_iload_n C dX6_readStone_26 rfl rfl ?_
      refine m_iconst (v := (-1)) C dX6_readStone_27 (by decide) ?_
      refine m_icmp_ne (tgt := 33) C dX6_readStone_28 (by decide) (fun c38 => ?_) (fun c38 => ?_)
      · exfalso
        have q : _ := c38
        simp only [ti_nle, ti_nlt, ti_le, ti_lt, ti_eq, ti_ne, Classical.not_not, kt_m1] at q
        have q1 := b37; have q2 := kc_m1; omega
      · have f40 : x25.toInt = -1 := by
          have q : _ := c38
          simp only [ti_nle, ti_nlt, ti_le, ti_lt, ti_eq, ti_ne, Classical.not_not, kt_m1] at q
          omega
        refine m_iconst (v := 0) C dX6_readStone_31 (by decide) ?_
        exact m_zret C hr rfl hlk (by decide) (by decide) dX6_readStone_32 ⟨_, rfl, i23, g27, (iv_wk kc_0 (by decide)), (by have qd := sto_2 T N cc i (by omega) (by omega) (by omega); have qk := kt_0; refine Or.inl ⟨by omega, by omega, by omega, by omega⟩)⟩
    · skip
      show MW p l e _ s m args below meth c _ 4 G 0 0 25 [some (.ref (G.1 12 0)), some (.ref (G.1 1 j2)), none, none] [.int x25] τ22
      refine m_istore_n (L1 := [some (.ref (G.1 12 0)), some (.ref (G.1 1 j2)), some (.int x25), none]) C dX6_readStone_25 rfl (by decide) rfl rfl ?_
      refine m_iload_n C dX6_readStone_26 rfl rfl ?_
      refine m_iconst (v := (-1)) C dX6_readStone_27 (by decide) ?_
      refine m_icmp_ne (tgt := 33) C dX6_readStone_28 (by decide) (fun c41 => ?_) (fun c41 => ?_)
      · have f42 : x25.toInt ≠ -1 := by
          have q : _ := c41
          simp only [ti_nle, ti_nlt, ti_le, ti_lt, ti_eq, ti_ne, Classical.not_not, kt_m1] at q
          omega
        refine m_aload_n C dX6_readStone_33 rfl rfl ?_
        refine m_iconst (v := 0) C dX6_readStone_34 (by decide) ?_
        refine m_iconst (v := 3) C dX6_readStone_35 (by decide) ?_
        have q43 := kt_0
        have q44 := kt_3
        refine m_callV (n := 2) (ci := 5) (st := []) C (c_X6_numberE l G τ22 T N (tE T N (tE T N i)) (0) (3) i23 v29 (by omega)) (by decide) (by decide) rfl rfl rfl q2_145 q2_142 q2_144 q0_9 q1_2 (by decide +kernel) rfl (by decide) (by decide) rfl (Nat.le_of_ble_eq_true rfl) dX6_readStone_36 ?_
        rintro _ τ45 ⟨x48, rfl, i46, f47, b49, h51⟩
        have g50 : Fr MS_X6_readStoneE AS_X6_readStoneE σ τ45 := Fr.call (g27) f47 (by decide)
        clear h28_5
        have v52 : TpC τ45 T N := v29.fr f47 (by decide) (by decide) (by simp) (by decide)
        have u53 : IV (gV τ45 12 0 4) 0 400 := i46.1 12 0 4
        have u54 : IV (gV τ45 12 0 5) 0 400 := i46.1 12 0 5
        have q55 : (gV τ45 1 j2 3).toInt = (gV σ 1 j2 3).toInt := congrArg Int32.toInt (show (gV τ45 1 j2 3) = (gV σ 1 j2 3) from (show gV τ45 1 j2 3 = (gV σ 1 j2 3) from (f47.1 1 j2 (3) (by decide) (by decide)).trans (show gV τ22 1 j2 3 = (gV σ 1 j2 3) from (f24.1 1 j2 (3) (by decide) (by decide)).trans (show gV τ7 1 j2 3 = (gV σ 1 j2 3) from (f9.1 1 j2 (3) (by decide) (by decide)).trans rfl))))
        rcases h51 with ⟨h51_0, h51_1, h51_2, h51_3⟩ | ⟨h51_0, h51_1, h51_2, h51_3, h51_4⟩ | ⟨h51_0, h51_1, h51_2, h51_3, h51_4, h51_5⟩
        · skip
          have b56 : IV x48 (-1) (-1) := ⟨by omega, by omega⟩
          show MW p l e _ s m args below meth c _ 4 G 0 0 39 [some (.ref (G.1 12 0)), some (.ref (G.1 1 j2)), some (.int x25), none] [.int x48] τ45
          refine m_istore_n (L1 := [some (.ref (G.1 12 0)), some (.ref (G.1 1 j2)), some (.int x25), some (.int x48)]) C dX6_readStone_39 rfl (by decide) rfl rfl ?_
          refine m_iload_n C dX6_readStone_40 rfl rfl ?_
          refine m_iconst (v := (-1)) C dX6_readStone_41 (by decide) ?_
          refine m_icmp_ne (tgt := 47) C dX6_readStone_42 (by decide) (fun c57 => ?_) (fun c57 => ?_)
          · exfalso
            have q : _ := c57
            simp only [ti_nle, ti_nlt, ti_le, ti_lt, ti_eq, ti_ne, Classical.not_not, kt_m1] at q
            have q1 := b56; have q2 := kc_m1; omega
          · have f59 : x48.toInt = -1 := by
              have q : _ := c57
              simp only [ti_nle, ti_nlt, ti_le, ti_lt, ti_eq, ti_ne, Classical.not_not, kt_m1] at q
              omega
            refine m_iconst (v := 0) C dX6_readStone_45 (by decide) ?_
            exact m_zret C hr rfl hlk (by decide) (by decide) dX6_readStone_46 ⟨_, rfl, i46, g50, (iv_wk kc_0 (by decide)), (by have qd := sto_3 T N cc i (by omega) (by omega) (by omega) (by omega); have qk := kt_0; refine Or.inl ⟨by omega, by omega, by omega, by omega⟩)⟩
        · skip
          have b60 : IV x48 (-1) (-1) := ⟨by omega, by omega⟩
          show MW p l e _ s m args below meth c _ 4 G 0 0 39 [some (.ref (G.1 12 0)), some (.ref (G.1 1 j2)), some (.int x25), none] [.int x48] τ45
          refine m_istore_n (L1 := [some (.ref (G.1 12 0)), some (.ref (G.1 1 j2)), some (.int x25), some (.int x48)]) C dX6_readStone_39 rfl (by decide) rfl rfl ?_
          refine m_iload_n C dX6_readStone_40 rfl rfl ?_
          refine m_iconst (v := (-1)) C dX6_readStone_41 (by decide) ?_
          refine m_icmp_ne (tgt := 47) C dX6_readStone_42 (by decide) (fun c61 => ?_) (fun c61 => ?_)
          · exfalso
            have q : _ := c61
            simp only [ti_nle, ti_nlt, ti_le, ti_lt, ti_eq, ti_ne, Classical.not_not, kt_m1] at q
            have q1 := b60; have q2 := kc_m1; omega
          · have f63 : x48.toInt = -1 := by
              have q : _ := c61
              simp only [ti_nle, ti_nlt, ti_le, ti_lt, ti_eq, ti_ne, Classical.not_not, kt_m1] at q
              omega
            refine m_iconst (v := 0) C dX6_readStone_45 (by decide) ?_
            exact m_zret C hr rfl hlk (by decide) (by decide) dX6_readStone_46 ⟨_, rfl, i46, g50, (iv_wk kc_0 (by decide)), (by have qd := sto_4 T N cc i (by omega) (by omega) (by omega) (by omega) (by omega); have qk := kt_0; refine Or.inl ⟨by omega, by omega, by omega, by omega⟩)⟩
        · skip
          show MW p l e _ s m args below meth c _ 4 G 0 0 39 [some (.ref (G.1 12 0)), some (.ref (G.1 1 j2)), some (.int x25), none] [.int x48] τ45
          refine m_istore_n (L1 := [some (.ref (G.1 12 0)), some (.ref (G.1 1 j2)), some (.int x25), some (.int x48)]) C dX6_readStone_39 rfl (by decide) rfl rfl ?_
          refine m_iload_n C dX6_readStone_40 rfl rfl ?_
          refine m_iconst (v := (-1)) C dX6_readStone_41 (by decide) ?_
          refine m_icmp_ne (tgt := 47) C dX6_readStone_42 (by decide) (fun c64 => ?_) (fun c64 => ?_)
          · have f65 : x48.toInt ≠ -1 := by
              have q : _ := c64
              simp only [ti_nle, ti_nlt, ti_le, ti_lt, ti_eq, ti_ne, Classical.not_not, kt_m1] at q
              omega
            refine m_aload_n C dX6_readStone_47 rfl rfl ?_
            refine m_iload_n C dX6_readStone_48 rfl rfl ?_
            refine m_iload_n C dX6_readStone_49 rfl rfl ?_
            refine m_callV (n := 2) (ci := 7) (st := []) C (c_X8_addStoneE l G τ45 (j := j2) hj2 (x25) (x48) i46 ) (by decide) hj2 rfl rfl rfl q3_4 q3_1 q3_2 q3_3 q1_3 (by decide +kernel) rfl (by decide) (by decide) rfl (Nat.le_of_ble_eq_true rfl) dX6_readStone_50 ?_
            rintro _ τ66 ⟨rfl, i67, f68, h72⟩
            have g71 : Fr MS_X6_readStoneE AS_X6_readStoneE σ τ66 := Fr.call (g50) f68 (by decide)
            have v73 : TpC τ66 T N := v52.fr f68 (by decide) (by decide) (by simp) (by decide)
            have u74 : IV (gV τ66 1 j2 3) 0 4 := i67.1 1 j2 3
            have q75 : (gV τ66 12 0 2).toInt = (gV τ45 12 0 2).toInt := congrArg Int32.toInt (show (gV τ66 12 0 2) = (gV τ45 12 0 2) from (show gV τ66 12 0 2 = (gV τ45 12 0 2) from (f68.1 12 0 (2) (by decide) (by decide)).trans rfl))
            have q76 : (gV τ66 12 0 3).toInt = (gV τ45 12 0 3).toInt := congrArg Int32.toInt (show (gV τ66 12 0 3) = (gV τ45 12 0 3) from (show gV τ66 12 0 3 = (gV τ45 12 0 3) from (f68.1 12 0 (3) (by decide) (by decide)).trans rfl))
            have q77 : (gV τ66 12 0 4).toInt = (gV τ45 12 0 4).toInt := congrArg Int32.toInt (show (gV τ66 12 0 4) = (gV τ45 12 0 4) from (show gV τ66 12 0 4 = (gV τ45 12 0 4) from (f68.1 12 0 (4) (by decide) (by decide)).trans rfl))
            have q78 : (gV τ66 12 0 5).toInt = (gV τ45 12 0 5).toInt := congrArg Int32.toInt (show (gV τ66 12 0 5) = (gV τ45 12 0 5) from (show gV τ66 12 0 5 = (gV τ45 12 0 5) from (f68.1 12 0 (5) (by decide) (by decide)).trans rfl))
            have q79 : (gV τ66 12 0 6).toInt = (gV τ45 12 0 6).toInt := congrArg Int32.toInt (show (gV τ66 12 0 6) = (gV τ45 12 0 6) from (show gV τ66 12 0 6 = (gV τ45 12 0 6) from (f68.1 12 0 (6) (by decide) (by decide)).trans rfl))
            have q80 : (gV τ66 12 0 7).toInt = (gV τ45 12 0 7).toInt := congrArg Int32.toInt (show (gV τ66 12 0 7) = (gV τ45 12 0 7) from (show gV τ66 12 0 7 = (gV τ45 12 0 7) from (f68.1 12 0 (7) (by decide) (by decide)).trans rfl))
            show MW p l e _ s m args below meth c _ 4 G 0 0 53 [some (.ref (G.1 12 0)), some (.ref (G.1 1 j2)), some (.int x25), some (.int x48)] [] τ66
            refine m_aload_n C dX6_readStone_53 rfl rfl ?_
            refine m_callV (n := 0) (ci := 5) (st := []) C (c_X6_passSemicolonE l G τ66 T N (tE T N (tE T N (tE T N i)))  i67 v73 (by omega)) (by decide) (by decide) rfl rfl rfl q2_149 q2_146 q2_148 q0_10 q1_2 (by decide +kernel) rfl (by decide) (by decide) rfl (Nat.le_of_ble_eq_true rfl) dX6_readStone_54 ?_
            rintro _ τ81 ⟨x84, rfl, i82, f83, b85, h87⟩
            have g86 : Fr MS_X6_readStoneE AS_X6_readStoneE σ τ81 := Fr.call (g71) f83 (by decide)
            clear h51_5
            have v88 : TpC τ81 T N := v73.fr f83 (by decide) (by decide) (by simp) (by decide)
            have u89 : IV (gV τ81 12 0 4) 0 400 := i82.1 12 0 4
            have u90 : IV (gV τ81 12 0 5) 0 400 := i82.1 12 0 5
            have q91 : (gV τ81 1 j2 3).toInt = (gV τ66 1 j2 3).toInt := congrArg Int32.toInt (show (gV τ81 1 j2 3) = (gV τ66 1 j2 3) from (show gV τ81 1 j2 3 = (gV τ66 1 j2 3) from (f83.1 1 j2 (3) (by decide) (by decide)).trans rfl))
            rcases h87 with ⟨h87_0, h87_1, h87_2, h87_3⟩ | ⟨h87_0, h87_1, h87_2, h87_3⟩
            · skip
              have b92 : IV x84 0 0 := ⟨by omega, by omega⟩
              show MW p l e _ s m args below meth c _ 4 G 0 0 57 [some (.ref (G.1 12 0)), some (.ref (G.1 1 j2)), some (.int x25), some (.int x48)] [.int x84] τ81
              exact m_zret C hr (nar_z (iv_wk b92 (by decide))) hlk (by decide) (by decide) dX6_readStone_57 ⟨_, rfl, i82, g86, (iv_wk b92 (by decide)), (by have qd := sto_5 T N cc i (by omega) (by omega) (by omega) (by omega) (by omega) (by omega); refine Or.inl ⟨by omega, by omega, by omega, by omega⟩)⟩
            · skip
              have b93 : IV x84 1 1 := ⟨by omega, by omega⟩
              show MW p l e _ s m args below meth c _ 4 G 0 0 57 [some (.ref (G.1 12 0)), some (.ref (G.1 1 j2)), some (.int x25), some (.int x48)] [.int x84] τ81
              exact m_zret C hr (nar_z (iv_wk b93 (by decide))) hlk (by decide) (by decide) dX6_readStone_57 ⟨_, rfl, i82, g86, (iv_wk b93 (by decide)), (by have qd := sto_ok T N cc i (by omega) (by omega) (by omega) (by omega) (by omega) (by omega); refine Or.inr ⟨by omega, by omega, by omega, by omega, by omega⟩)⟩
          · have f94 : x48.toInt = -1 := by
              have q : _ := c64
              simp only [ti_nle, ti_nlt, ti_le, ti_lt, ti_eq, ti_ne, Classical.not_not, kt_m1] at q
              omega
            have b95 : IV x48 (-1) (-1) := ⟨by have q1 := b49; have q2 := kc_m1; omega, by have q1 := b49; have q2 := kc_m1; omega⟩
            refine m_iconst (v := 0) C dX6_readStone_45 (by decide) ?_
            exact m_zret C hr rfl hlk (by decide) (by decide) dX6_readStone_46 ⟨_, rfl, i46, g50, (iv_wk kc_0 (by decide)), (by have qd := sto_ok T N cc i (by omega) (by omega) (by omega) (by omega) (by omega) (by omega); have qk := kt_0; refine Or.inl ⟨by omega, by omega, by omega, by omega⟩)⟩
      · have f96 : x25.toInt = -1 := by
          have q : _ := c41
          simp only [ti_nle, ti_nlt, ti_le, ti_lt, ti_eq, ti_ne, Classical.not_not, kt_m1] at q
          omega
        have b97 : IV x25 (-1) (-1) := ⟨by have q1 := b26; have q2 := kc_m1; omega, by have q1 := b26; have q2 := kc_m1; omega⟩
        refine m_iconst (v := 0) C dX6_readStone_31 (by decide) ?_
        exact m_zret C hr rfl hlk (by decide) (by decide) dX6_readStone_32 ⟨_, rfl, i23, g27, (iv_wk kc_0 (by decide)), (by have qd := sto_ok T N cc i (by omega) (by omega) (by omega) (by omega) (by omega) (by omega); have qk := kt_0; refine Or.inl ⟨by omega, by omega, by omega, by omega⟩)⟩
  · have f98 : 4 ≤ (gV σ 1 j2 3).toInt := by
      have q : _ := c4
      simp only [ti_nle, ti_nlt, ti_le, ti_lt, ti_eq, ti_ne, Classical.not_not, kt_4] at q
      omega
    have b99 : IV (gV σ 1 j2 3) 4 4 := ⟨by have q1 := kc_4; have q2 := u1; omega, by have q1 := kc_4; have q2 := u1; omega⟩
    refine m_aload_n C dX6_readStone_8 rfl rfl ?_
    refine m_iconst (v := 3) C dX6_readStone_9 (by decide) ?_
    have q100 := kt_3
    refine m_callV (n := 1) (ci := 5) (st := []) C (c_X6_refuseE l G σ (3) hI ) (by decide) (by decide) rfl rfl rfl q2_141 q2_138 q2_140 q0_8 q1_2 (by decide +kernel) rfl (by decide) (by decide) rfl (Nat.le_of_ble_eq_true rfl) dX6_readStone_10 ?_
    rintro _ τ101 ⟨x104, rfl, i102, f103, b105, h107⟩
    have g106 : Fr MS_X6_readStoneE AS_X6_readStoneE σ τ101 := Fr.call (Fr.rf) f103 (by decide)
    have v108 : TpC τ101 T N := hT.fr f103 (by decide) (by decide) (by simp) (by decide)
    have q109 : (gV τ101 1 j2 3).toInt = (gV σ 1 j2 3).toInt := congrArg Int32.toInt (show (gV τ101 1 j2 3) = (gV σ 1 j2 3) from (show gV τ101 1 j2 3 = (gV σ 1 j2 3) from (f103.1 1 j2 (3) (by decide) (by decide)).trans rfl))
    have q110 : (gV τ101 12 0 4).toInt = (gV σ 12 0 4).toInt := congrArg Int32.toInt (show (gV τ101 12 0 4) = (gV σ 12 0 4) from (show gV τ101 12 0 4 = (gV σ 12 0 4) from (f103.1 12 0 (4) (by decide) (by decide)).trans rfl))
    have q111 : (gV τ101 12 0 5).toInt = (gV σ 12 0 5).toInt := congrArg Int32.toInt (show (gV τ101 12 0 5) = (gV σ 12 0 5) from (show gV τ101 12 0 5 = (gV σ 12 0 5) from (f103.1 12 0 (5) (by decide) (by decide)).trans rfl))
    have q112 : (gV τ101 12 0 6).toInt = (gV σ 12 0 6).toInt := congrArg Int32.toInt (show (gV τ101 12 0 6) = (gV σ 12 0 6) from (show gV τ101 12 0 6 = (gV σ 12 0 6) from (f103.1 12 0 (6) (by decide) (by decide)).trans rfl))
    have q113 : (gV τ101 12 0 7).toInt = (gV σ 12 0 7).toInt := congrArg Int32.toInt (show (gV τ101 12 0 7) = (gV σ 12 0 7) from (show gV τ101 12 0 7 = (gV σ 12 0 7) from (f103.1 12 0 (7) (by decide) (by decide)).trans rfl))
    show MW p l e _ s m args below meth c _ 4 G 0 0 13 [some (.ref (G.1 12 0)), some (.ref (G.1 1 j2)), none, none] [.int x104] τ101
    exact m_zret C hr (nar_z (iv_wk b105 (by decide))) hlk (by decide) (by decide) dX6_readStone_13 ⟨_, rfl, i102, g106, (iv_wk b105 (by decide)), (by have qd := sto_0 T N cc i (by omega); refine Or.inl ⟨by omega, by omega, by omega, by omega⟩)⟩

abbrev MS_X6_readIntoT : List (Nat × Nat) := [(1, 0), (1, 1), (1, 2), (1, 3), (1, 9), (1, 10), (1, 11), (12, 1), (12, 2), (12, 3), (12, 4), (12, 5), (12, 6), (12, 7)]
abbrev AS_X6_readIntoT : List Nat := [2, 3, 4, 5, 6, 99]
set_option maxHeartbeats 4000000 in
set_option maxRecDepth 100000 in
theorem c_X6_readIntoT (l : Launch) (G : Gt) (σ : Sg) (T : Nat → Int) (N : Nat) {j2 : Nat} (hj2 : j2 < 28) (hI : Inv σ) (hT : TpC σ T N) : Mc l G yX6_readInto cX6_readInto 4 (some .boolean) 7 158 8 24 [.ref (G.1 12 0), .ref (G.1 1 j2)] σ (PI fun r τ => Inv τ ∧ Fr MS_X6_readIntoT AS_X6_readIntoT σ τ ∧ IV r 0 1 ∧ ((r.toInt = 0 ∧ outF T N ≠ 0 ∧ (gV τ 12 0 2).toInt = outF T N ∧ ((gV τ 12 0 3).toInt = outP T N ∧ 0 ≤ (gV τ 12 0 3).toInt ∧ (gV τ 12 0 3).toInt ≤ 400) ∧ (gV τ 12 0 1).toInt = 0) ∨ (r.toInt = 1 ∧ outF T N = 0 ∧ (gV τ 12 0 2).toInt = (gV σ 12 0 2).toInt ∧ (gV τ 1 j2 2).toInt = outN T N ∧ (gV τ 12 0 1).toInt = 0))) := by
  refine Mc.of (L0 := [some (.ref (G.1 12 0)), some (.ref (G.1 1 j2)), none, none]) (by decide) (Nat.le_of_ble_eq_true rfl) rfl ?_
  intro p e s m args below meth c C hr hlk
  have C : Cx p s m args c cX6_readInto 4 "LeanTower$Reader" := C
  have k0 : (0 : Int32).toInt = 0 := by decide
  have k1 : (1 : Int32).toInt = 1 := by decide
  have J54 : ∀ (n : Nat) (τ : Sg) (y2 : Int32) (y3 : Int32) (q54 : Nat), Inv τ → Fr MS_X6_readIntoT AS_X6_readIntoT σ τ → IV y2 0 1 → IV y3 0 5 → (TpC τ T N) → (((y2.toInt = 1 ∧ (gV τ 12 0 2).toInt = (gV σ 12 0 2).toInt ∧ ((gV τ 12 0 4).toInt = (tS T q54 : Int) ∧ (gV τ 12 0 5).toInt = (tE T N q54 : Int) ∧ (gV τ 12 0 6).toInt = tK T N q54 ∧ (tK T N q54 = 2 → (gV τ 12 0 7).toInt = tV T q54)) ∧ y3.toInt = (gV τ 1 j2 3).toInt ∧ SI_ T N (gV τ 1 j2 2).toInt.toNat (gV τ 1 j2 3).toInt.toNat q54) ∨ (y2.toInt = 0 ∧ outF T N ≠ 0 ∧ (gV τ 12 0 2).toInt = outF T N ∧ ((gV τ 12 0 3).toInt = outP T N ∧ 0 ≤ (gV τ 12 0 3).toInt ∧ (gV τ 12 0 3).toInt ≤ 400)))) → (5 - y3.toInt).toNat < n → MW p l e { frames := 7, cells := 8, slots := 24, locals := 158 } s m args below meth c (MQ below (QP G (PI fun r τ => Inv τ ∧ Fr MS_X6_readIntoT AS_X6_readIntoT σ τ ∧ IV r 0 1 ∧ ((r.toInt = 0 ∧ outF T N ≠ 0 ∧ (gV τ 12 0 2).toInt = outF T N ∧ ((gV τ 12 0 3).toInt = outP T N ∧ 0 ≤ (gV τ 12 0 3).toInt ∧ (gV τ 12 0 3).toInt ≤ 400) ∧ (gV τ 12 0 1).toInt = 0) ∨ (r.toInt = 1 ∧ outF T N = 0 ∧ (gV τ 12 0 2).toInt = (gV σ 12 0 2).toInt ∧ (gV τ 1 j2 2).toInt = outN T N ∧ (gV τ 12 0 1).toInt = 0)))) args s 8 24 (aG G)) 4 G 8 24 54 [some (.ref (G.1 12 0)), some (.ref (G.1 1 j2)), some (.int y2), some (.int y3)] [] τ := by
    intro n
    induction n with
    | zero => intro τ y2 y3 q54 iτ fτ b_y2 b_y3 v_T nR hm; exact absurd hm (Nat.not_lt_zero _)
    | succ n ih54 =>
      intro τ y2 y3 q54 iτ fτ b_y2 b_y3 v_T nR hm54
      have u1 : IV (gV τ 1 j2 2) 0 7 := iτ.1 1 j2 2
      have u2 : IV (gV τ 1 j2 3) 0 4 := iτ.1 1 j2 3
      have u3 : IV (gV τ 12 0 1) 0 400 := iτ.1 12 0 1
      have u4 : IV (gV τ 12 0 4) 0 400 := iτ.1 12 0 4
      have u5 : IV (gV τ 12 0 5) 0 400 := iτ.1 12 0 5
      rcases nR with ⟨n0_, n1_, n2_, n3_, nP⟩ | ⟨n0_, n1_, n2_, n3_⟩
      · have b6 : IV y2 1 1 := ⟨by omega, by omega⟩
        have b7 : IV y3 0 4 := ⟨by omega, by omega⟩
        refine m_iload_n C dX6_readInto_54 rfl rfl ?_
        refine m_if_eq (tgt := 84) C dX6_readInto_55 (by decide) (fun c8 => ?_) (fun c8 => ?_)
        · exfalso
          have q : _ := c8
          simp only [ti_nle, ti_nlt, ti_le, ti_lt, ti_eq, ti_ne, Classical.not_not, kt_0] at q
          have q1 := b6; have q2 := kc_0; omega
        · have f10 : y2.toInt ≠ 0 := by
            have q : _ := c8
            simp only [ti_nle, ti_nlt, ti_le, ti_lt, ti_eq, ti_ne, Classical.not_not, kt_0] at q
            omega
          refine m_iload_n C dX6_readInto_58 rfl rfl ?_
          refine m_iconst (v := 4) C dX6_readInto_59 (by decide) ?_
          refine m_icmp_gt (tgt := 84) C dX6_readInto_60 (by decide) (fun c11 => ?_) (fun c11 => ?_)
          · exfalso
            have q : _ := c11
            simp only [ti_nle, ti_nlt, ti_le, ti_lt, ti_eq, ti_ne, Classical.not_not, kt_4] at q
            have q1 := b7; have q2 := kc_4; omega
          · have f13 : y3.toInt ≤ 4 := by
              have q : _ := c11
              simp only [ti_nle, ti_nlt, ti_le, ti_lt, ti_eq, ti_ne, Classical.not_not, kt_4] at q
              omega
            refine m_aload_n C dX6_readInto_63 rfl rfl ?_
            refine s_ldc (w := 7) (tx := "") C rfl (by decide) rfl dX6_readInto_64 ?_
            refine m_callV (n := 1) (ci := 5) (st := []) C (c_X6_isWordE l G τ T N q54 (w := 7) (by decide) iτ v_T (by omega)) (by decide) (by decide) rfl rfl rfl q2_89 q2_86 q2_88 q0_7 q1_2 (by decide +kernel) rfl (by decide) (by decide) rfl (Nat.le_of_ble_eq_true rfl) dX6_readInto_66 ?_
            rintro _ τ14 ⟨x17, rfl, i15, f16, b18, h20⟩
            have g19 : Fr MS_X6_readIntoT AS_X6_readIntoT σ τ14 := Fr.call (fτ) f16 (by decide)
            have v21 : TpC τ14 T N := v_T.fr f16 (by decide) (by decide) (by simp) (by decide)
            have q22 : (gV τ14 1 j2 0).toInt = (gV τ 1 j2 0).toInt := congrArg Int32.toInt (show (gV τ14 1 j2 0) = (gV τ 1 j2 0) from (show gV τ14 1 j2 0 = (gV τ 1 j2 0) from (f16.1 1 j2 (0) (by decide) (by decide)).trans rfl))
            have q23 : (gV τ14 1 j2 2).toInt = (gV τ 1 j2 2).toInt := congrArg Int32.toInt (show (gV τ14 1 j2 2) = (gV τ 1 j2 2) from (show gV τ14 1 j2 2 = (gV τ 1 j2 2) from (f16.1 1 j2 (2) (by decide) (by decide)).trans rfl))
            have q24 : (gV τ14 1 j2 3).toInt = (gV τ 1 j2 3).toInt := congrArg Int32.toInt (show (gV τ14 1 j2 3) = (gV τ 1 j2 3) from (show gV τ14 1 j2 3 = (gV τ 1 j2 3) from (f16.1 1 j2 (3) (by decide) (by decide)).trans rfl))
            have q25 : (gV τ14 12 0 1).toInt = (gV τ 12 0 1).toInt := congrArg Int32.toInt (show (gV τ14 12 0 1) = (gV τ 12 0 1) from (show gV τ14 12 0 1 = (gV τ 12 0 1) from (f16.1 12 0 (1) (by decide) (by decide)).trans rfl))
            have q26 : (gV τ14 12 0 2).toInt = (gV τ 12 0 2).toInt := congrArg Int32.toInt (show (gV τ14 12 0 2) = (gV τ 12 0 2) from (show gV τ14 12 0 2 = (gV τ 12 0 2) from (f16.1 12 0 (2) (by decide) (by decide)).trans rfl))
            have q27 : (gV τ14 12 0 3).toInt = (gV τ 12 0 3).toInt := congrArg Int32.toInt (show (gV τ14 12 0 3) = (gV τ 12 0 3) from (show gV τ14 12 0 3 = (gV τ 12 0 3) from (f16.1 12 0 (3) (by decide) (by decide)).trans rfl))
            have q28 : (gV τ14 12 0 4).toInt = (gV τ 12 0 4).toInt := congrArg Int32.toInt (show (gV τ14 12 0 4) = (gV τ 12 0 4) from (show gV τ14 12 0 4 = (gV τ 12 0 4) from (f16.1 12 0 (4) (by decide) (by decide)).trans rfl))
            have q29 : (gV τ14 12 0 5).toInt = (gV τ 12 0 5).toInt := congrArg Int32.toInt (show (gV τ14 12 0 5) = (gV τ 12 0 5) from (show gV τ14 12 0 5 = (gV τ 12 0 5) from (f16.1 12 0 (5) (by decide) (by decide)).trans rfl))
            have q30 : (gV τ14 12 0 6).toInt = (gV τ 12 0 6).toInt := congrArg Int32.toInt (show (gV τ14 12 0 6) = (gV τ 12 0 6) from (show gV τ14 12 0 6 = (gV τ 12 0 6) from (f16.1 12 0 (6) (by decide) (by decide)).trans rfl))
            have q31 : (gV τ14 12 0 7).toInt = (gV τ 12 0 7).toInt := congrArg Int32.toInt (show (gV τ14 12 0 7) = (gV τ 12 0 7) from (show gV τ14 12 0 7 = (gV τ 12 0 7) from (f16.1 12 0 (7) (by decide) (by decide)).trans rfl))
            rcases h20 with ⟨h20_0, h20_1, h20_2⟩ | ⟨h20_0, h20_1⟩
            · skip
              have b32 : IV x17 1 1 := ⟨by omega, by omega⟩
              show MW p l e _ s m args below meth c _ 4 G 8 24 69 [some (.ref (G.1 12 0)), some (.ref (G.1 1 j2)), some (.int y2), some (.int y3)] [.int x17] τ14
              refine m_if_eq (tgt := 84) C dX6_readInto_69 (by decide) (fun c33 => ?_) (fun c33 => ?_)
              · exfalso
                have q : _ := c33
                simp only [ti_nle, ti_nlt, ti_le, ti_lt, ti_eq, ti_ne, Classical.not_not, kt_0] at q
                have q1 := b32; have q2 := kc_0; omega
              · have f35 : x17.toInt ≠ 0 := by
                  have q : _ := c33
                  simp only [ti_nle, ti_nlt, ti_le, ti_lt, ti_eq, ti_ne, Classical.not_not, kt_0] at q
                  omega
                refine m_aload_n C dX6_readInto_72 rfl rfl ?_
                refine m_aload_n C dX6_readInto_73 rfl rfl ?_
                refine m_callV (n := 1) (ci := 5) (st := []) C (c_X6_readStoneE l G τ14 T N q54 ((gV τ 1 j2 3).toInt.toNat : Nat) (j2 := j2) hj2 i15 v21 (by omega) (by omega)) (by decide) (by decide) rfl rfl rfl q3_0 q2_237 q2_239 q0_13 q1_2 (by decide +kernel) rfl (by decide) (by decide) rfl (Nat.le_of_ble_eq_true rfl) dX6_readInto_74 ?_
                rintro _ τ36 ⟨x39, rfl, i37, f38, b40, h42⟩
                have g41 : Fr MS_X6_readIntoT AS_X6_readIntoT σ τ36 := Fr.call (g19) f38 (by decide)
                have v43 : TpC τ36 T N := v21.fr f38 (by decide) (by decide) (by simp) (by decide)
                have u44 : IV (gV τ36 1 j2 3) 0 4 := i37.1 1 j2 3
                have u45 : IV (gV τ36 12 0 4) 0 400 := i37.1 12 0 4
                have u46 : IV (gV τ36 12 0 5) 0 400 := i37.1 12 0 5
                have q47 : (gV τ36 1 j2 0).toInt = (gV τ 1 j2 0).toInt := congrArg Int32.toInt (show (gV τ36 1 j2 0) = (gV τ 1 j2 0) from (show gV τ36 1 j2 0 = (gV τ 1 j2 0) from (f38.1 1 j2 (0) (by decide) (by decide)).trans (show gV τ14 1 j2 0 = (gV τ 1 j2 0) from (f16.1 1 j2 (0) (by decide) (by decide)).trans rfl)))
                have q48 : (gV τ36 1 j2 2).toInt = (gV τ 1 j2 2).toInt := congrArg Int32.toInt (show (gV τ36 1 j2 2) = (gV τ 1 j2 2) from (show gV τ36 1 j2 2 = (gV τ 1 j2 2) from (f38.1 1 j2 (2) (by decide) (by decide)).trans (show gV τ14 1 j2 2 = (gV τ 1 j2 2) from (f16.1 1 j2 (2) (by decide) (by decide)).trans rfl)))
                have q49 : (gV τ36 12 0 1).toInt = (gV τ 12 0 1).toInt := congrArg Int32.toInt (show (gV τ36 12 0 1) = (gV τ 12 0 1) from (show gV τ36 12 0 1 = (gV τ 12 0 1) from (f38.1 12 0 (1) (by decide) (by decide)).trans (show gV τ14 12 0 1 = (gV τ 12 0 1) from (f16.1 12 0 (1) (by decide) (by decide)).trans rfl)))
                rcases h42 with ⟨h42_0, h42_1, h42_2, h42_3⟩ | ⟨h42_0, h42_1, h42_2, h42_3, h42_4⟩
                · skip
                  have b50 : IV x39 0 0 := ⟨by omega, by omega⟩
                  have q51 := nP.bad (by omega) ⟨by omega, by omega⟩ h42_1
                  show MW p l e _ s m args below meth c _ 4 G 8 24 77 [some (.ref (G.1 12 0)), some (.ref (G.1 1 j2)), some (.int y2), some (.int y3)] [.int x39] τ36
                  refine m_istore_n (L1 := [some (.ref (G.1 12 0)), some (.ref (G.1 1 j2)), some (.int x39), some (.int y3)]) C dX6_readInto_77 rfl (by decide) rfl rfl ?_
                  obtain ⟨x52, ex52⟩ : ∃ y : Int32, y = y3 + 1 := ⟨_, rfl⟩
                  have tx52 : x52.toInt = y3.toInt + 1 := by rw [ex52, ti_addv b7 kc_1 (by decide), kt_1]
                  have b53 : IV x52 1 5 := by rw [ex52]; exact iv_add b7 kc_1 (by decide)
                  refine m_iinc (v := x52) (L1 := [some (.ref (G.1 12 0)), some (.ref (G.1 1 j2)), some (.int x39), some (.int x52)]) C dX6_readInto_78 rfl (by rw [ex52]; rfl) (by decide) rfl rfl ?_
                  refine m_goto (tgt := 54) C dX6_readInto_81 (by decide) ?_
                  refine m_widen (c2 := 8) (s2 := 24) (by omega) (by omega) ?_
                  exact ih54 τ36 x39 x52 (tE T N (tE T N (tE T N (tE T N q54)))) i37 g41 (iv_wk b50 (by decide)) (iv_wk b53 (by decide)) v43 (Or.inr (by exact ⟨by omega, by omega, by omega, by omega⟩)) (by have q := hm54; omega)
                · skip
                  have b54 : IV x39 1 1 := ⟨by omega, by omega⟩
                  show MW p l e _ s m args below meth c _ 4 G 8 24 77 [some (.ref (G.1 12 0)), some (.ref (G.1 1 j2)), some (.int y2), some (.int y3)] [.int x39] τ36
                  refine m_istore_n (L1 := [some (.ref (G.1 12 0)), some (.ref (G.1 1 j2)), some (.int x39), some (.int y3)]) C dX6_readInto_77 rfl (by decide) rfl rfl ?_
                  obtain ⟨x55, ex55⟩ : ∃ y : Int32, y = y3 + 1 := ⟨_, rfl⟩
                  have tx55 : x55.toInt = y3.toInt + 1 := by rw [ex55, ti_addv b7 kc_1 (by decide), kt_1]
                  have b56 : IV x55 1 5 := by rw [ex55]; exact iv_add b7 kc_1 (by decide)
                  refine m_iinc (v := x55) (L1 := [some (.ref (G.1 12 0)), some (.ref (G.1 1 j2)), some (.int x39), some (.int x55)]) C dX6_readInto_78 rfl (by rw [ex55]; rfl) (by decide) rfl rfl ?_
                  refine m_goto (tgt := 54) C dX6_readInto_81 (by decide) ?_
                  refine m_widen (c2 := 8) (s2 := 24) (by omega) (by omega) ?_
                  exact ih54 τ36 x39 x55 (tE T N (tE T N (tE T N (tE T N q54)))) i37 g41 (iv_wk b54 (by decide)) (iv_wk b56 (by decide)) v43 (Or.inl (by exact ⟨by omega, by omega, by omega, by omega, (by rw [show (gV τ36 1 j2 2).toInt.toNat = (gV τ 1 j2 2).toInt.toNat by omega, show (gV τ36 1 j2 3).toInt.toNat = (gV τ 1 j2 3).toInt.toNat + 1 by omega]; exact nP.go (by omega) ⟨by omega, by omega⟩ (by omega))⟩)) (by have q := hm54; omega)
            · skip
              have b57 : IV x17 0 0 := ⟨by omega, by omega⟩
              show MW p l e _ s m args below meth c _ 4 G 8 24 69 [some (.ref (G.1 12 0)), some (.ref (G.1 1 j2)), some (.int y2), some (.int y3)] [.int x17] τ14
              refine m_if_eq (tgt := 84) C dX6_readInto_69 (by decide) (fun c58 => ?_) (fun c58 => ?_)
              · have f59 : x17.toInt = 0 := by
                  have q : _ := c58
                  simp only [ti_nle, ti_nlt, ti_le, ti_lt, ti_eq, ti_ne, Classical.not_not, kt_0] at q
                  omega
                refine m_iload_n C dX6_readInto_84 rfl rfl ?_
                refine m_if_eq (tgt := 107) C dX6_readInto_85 (by decide) (fun c60 => ?_) (fun c60 => ?_)
                · exfalso
                  have q : _ := c60
                  simp only [ti_nle, ti_nlt, ti_le, ti_lt, ti_eq, ti_ne, Classical.not_not, kt_0] at q
                  have q1 := b6; have q2 := kc_0; omega
                · have f62 : y2.toInt ≠ 0 := by
                    have q : _ := c60
                    simp only [ti_nle, ti_nlt, ti_le, ti_lt, ti_eq, ti_ne, Classical.not_not, kt_0] at q
                    omega
                  refine m_aload_n C dX6_readInto_88 rfl rfl ?_
                  refine g_12_6 C q1_46 dX6_readInto_89 ?_
                  refine m_eqs (w := (gV τ 12 0 6)) (show gV τ14 12 0 6 = (gV τ 12 0 6) from (f16.1 12 0 (6) (by decide) (by decide)).trans rfl) ?_
                  refine m_if_eq (tgt := 103) C dX6_readInto_92 (by decide) (fun c63 => ?_) (fun c63 => ?_)
                  · have f64 : (gV τ 12 0 6).toInt = 0 := by
                      have q : _ := c63
                      simp only [ti_nle, ti_nlt, ti_le, ti_lt, ti_eq, ti_ne, Classical.not_not, kt_0] at q
                      omega
                    have b65 : IV (gV τ 12 0 6) 0 0 := ⟨by have q1 := (iv_any (gV τ 12 0 6)); have q2 := kc_0; omega, by have q1 := (iv_any (gV τ 12 0 6)); have q2 := kc_0; omega⟩
                    refine m_iconst (v := 1) C dX6_readInto_103 (by decide) ?_
                    refine m_goto (tgt := 108) C dX6_readInto_104 (by decide) ?_
                    refine m_istore_n (L1 := [some (.ref (G.1 12 0)), some (.ref (G.1 1 j2)), some (.int 1), some (.int y3)]) C dX6_readInto_108 rfl (by decide) rfl rfl ?_
                    refine m_aload_n C dX6_readInto_109 rfl rfl ?_
                    refine m_iconst (v := 0) C dX6_readInto_110 (by decide) ?_
                    refine p_12_1 C q1_38 dX6_readInto_111 ?_
                    refine m_tops (fun τ66 eτ66 => ?_)
                    have i67 : Inv τ66 := eτ66 ▸ Inv.put i15 (by decide) (iv_wk kc_0 (by decide))
                    have f68 : Fr MS_X6_readIntoT AS_X6_readIntoT σ τ66 := eτ66 ▸ Fr.put (g19) (Or.inl (by decide))
                    refine m_iload_n C dX6_readInto_114 rfl rfl ?_
                    have q70 : (gV τ66 1 j2 0).toInt = (gV τ 1 j2 0).toInt := congrArg Int32.toInt (show (gV τ66 1 j2 0) = (gV τ 1 j2 0) from (show gV τ66 1 j2 0 = (gV τ 1 j2 0) from gV_put eτ66 (show gV τ14 1 j2 0 = (gV τ 1 j2 0) from (f16.1 1 j2 (0) (by decide) (by decide)).trans rfl)))
                    have q71 : (gV τ66 1 j2 2).toInt = (gV τ 1 j2 2).toInt := congrArg Int32.toInt (show (gV τ66 1 j2 2) = (gV τ 1 j2 2) from (show gV τ66 1 j2 2 = (gV τ 1 j2 2) from gV_put eτ66 (show gV τ14 1 j2 2 = (gV τ 1 j2 2) from (f16.1 1 j2 (2) (by decide) (by decide)).trans rfl)))
                    have q72 : (gV τ66 1 j2 3).toInt = (gV τ 1 j2 3).toInt := congrArg Int32.toInt (show (gV τ66 1 j2 3) = (gV τ 1 j2 3) from (show gV τ66 1 j2 3 = (gV τ 1 j2 3) from gV_put eτ66 (show gV τ14 1 j2 3 = (gV τ 1 j2 3) from (f16.1 1 j2 (3) (by decide) (by decide)).trans rfl)))
                    have q73 : (gV τ66 12 0 2).toInt = (gV τ 12 0 2).toInt := congrArg Int32.toInt (show (gV τ66 12 0 2) = (gV τ 12 0 2) from (show gV τ66 12 0 2 = (gV τ 12 0 2) from gV_put eτ66 (show gV τ14 12 0 2 = (gV τ 12 0 2) from (f16.1 12 0 (2) (by decide) (by decide)).trans rfl)))
                    have q74 : (gV τ66 12 0 3).toInt = (gV τ 12 0 3).toInt := congrArg Int32.toInt (show (gV τ66 12 0 3) = (gV τ 12 0 3) from (show gV τ66 12 0 3 = (gV τ 12 0 3) from gV_put eτ66 (show gV τ14 12 0 3 = (gV τ 12 0 3) from (f16.1 12 0 (3) (by decide) (by decide)).trans rfl)))
                    have q75 : (gV τ66 12 0 4).toInt = (gV τ 12 0 4).toInt := congrArg Int32.toInt (show (gV τ66 12 0 4) = (gV τ 12 0 4) from (show gV τ66 12 0 4 = (gV τ 12 0 4) from gV_put eτ66 (show gV τ14 12 0 4 = (gV τ 12 0 4) from (f16.1 12 0 (4) (by decide) (by decide)).trans rfl)))
                    have q76 : (gV τ66 12 0 5).toInt = (gV τ 12 0 5).toInt := congrArg Int32.toInt (show (gV τ66 12 0 5) = (gV τ 12 0 5) from (show gV τ66 12 0 5 = (gV τ 12 0 5) from gV_put eτ66 (show gV τ14 12 0 5 = (gV τ 12 0 5) from (f16.1 12 0 (5) (by decide) (by decide)).trans rfl)))
                    have q77 : (gV τ66 12 0 6).toInt = (gV τ 12 0 6).toInt := congrArg Int32.toInt (show (gV τ66 12 0 6) = (gV τ 12 0 6) from (show gV τ66 12 0 6 = (gV τ 12 0 6) from gV_put eτ66 (show gV τ14 12 0 6 = (gV τ 12 0 6) from (f16.1 12 0 (6) (by decide) (by decide)).trans rfl)))
                    have q78 : (gV τ66 12 0 7).toInt = (gV τ 12 0 7).toInt := congrArg Int32.toInt (show (gV τ66 12 0 7) = (gV τ 12 0 7) from (show gV τ66 12 0 7 = (gV τ 12 0 7) from gV_put eτ66 (show gV τ14 12 0 7 = (gV τ 12 0 7) from (f16.1 12 0 (7) (by decide) (by decide)).trans rfl)))
                    have q79 : (gV τ66 12 0 1).toInt = 0 := (congrArg Int32.toInt (show (gV τ66 12 0 1) = 0 from (show gV τ66 12 0 1 = 0 from gV_put eτ66 (gV_self _ _ _ _ _)))).trans kt_0
                    exact m_zret C hr rfl hlk (by decide) (by decide) dX6_readInto_115 ⟨_, rfl, i67, f68, (iv_wk kc_1 (by decide)), (by have qk := kt_1; have qn := nP.no (by omega); exact Or.inr ⟨by omega, by omega, by omega, by omega, by omega⟩)⟩
                  · have f80 : (gV τ 12 0 6).toInt ≠ 0 := by
                      have q : _ := c63
                      simp only [ti_nle, ti_nlt, ti_le, ti_lt, ti_eq, ti_ne, Classical.not_not, kt_0] at q
                      omega
                    refine m_aload_n C dX6_readInto_95 rfl rfl ?_
                    refine m_iconst (v := 1) C dX6_readInto_96 (by decide) ?_
                    have q81 := kt_1
                    refine m_callV (n := 1) (ci := 5) (st := []) C (c_X6_refuseE l G τ14 (1) i15 ) (by decide) (by decide) rfl rfl rfl q2_141 q2_138 q2_140 q0_8 q1_2 (by decide +kernel) rfl (by decide) (by decide) rfl (Nat.le_of_ble_eq_true rfl) dX6_readInto_97 ?_
                    rintro _ τ82 ⟨x85, rfl, i83, f84, b86, h88⟩
                    have g87 : Fr MS_X6_readIntoT AS_X6_readIntoT σ τ82 := Fr.call (g19) f84 (by decide)
                    have v89 : TpC τ82 T N := v21.fr f84 (by decide) (by decide) (by simp) (by decide)
                    have q90 : (gV τ82 1 j2 0).toInt = (gV τ 1 j2 0).toInt := congrArg Int32.toInt (show (gV τ82 1 j2 0) = (gV τ 1 j2 0) from (show gV τ82 1 j2 0 = (gV τ 1 j2 0) from (f84.1 1 j2 (0) (by decide) (by decide)).trans (show gV τ14 1 j2 0 = (gV τ 1 j2 0) from (f16.1 1 j2 (0) (by decide) (by decide)).trans rfl)))
                    have q91 : (gV τ82 1 j2 2).toInt = (gV τ 1 j2 2).toInt := congrArg Int32.toInt (show (gV τ82 1 j2 2) = (gV τ 1 j2 2) from (show gV τ82 1 j2 2 = (gV τ 1 j2 2) from (f84.1 1 j2 (2) (by decide) (by decide)).trans (show gV τ14 1 j2 2 = (gV τ 1 j2 2) from (f16.1 1 j2 (2) (by decide) (by decide)).trans rfl)))
                    have q92 : (gV τ82 1 j2 3).toInt = (gV τ 1 j2 3).toInt := congrArg Int32.toInt (show (gV τ82 1 j2 3) = (gV τ 1 j2 3) from (show gV τ82 1 j2 3 = (gV τ 1 j2 3) from (f84.1 1 j2 (3) (by decide) (by decide)).trans (show gV τ14 1 j2 3 = (gV τ 1 j2 3) from (f16.1 1 j2 (3) (by decide) (by decide)).trans rfl)))
                    have q93 : (gV τ82 12 0 1).toInt = (gV τ 12 0 1).toInt := congrArg Int32.toInt (show (gV τ82 12 0 1) = (gV τ 12 0 1) from (show gV τ82 12 0 1 = (gV τ 12 0 1) from (f84.1 12 0 (1) (by decide) (by decide)).trans (show gV τ14 12 0 1 = (gV τ 12 0 1) from (f16.1 12 0 (1) (by decide) (by decide)).trans rfl)))
                    have q94 : (gV τ82 12 0 4).toInt = (gV τ 12 0 4).toInt := congrArg Int32.toInt (show (gV τ82 12 0 4) = (gV τ 12 0 4) from (show gV τ82 12 0 4 = (gV τ 12 0 4) from (f84.1 12 0 (4) (by decide) (by decide)).trans (show gV τ14 12 0 4 = (gV τ 12 0 4) from (f16.1 12 0 (4) (by decide) (by decide)).trans rfl)))
                    have q95 : (gV τ82 12 0 5).toInt = (gV τ 12 0 5).toInt := congrArg Int32.toInt (show (gV τ82 12 0 5) = (gV τ 12 0 5) from (show gV τ82 12 0 5 = (gV τ 12 0 5) from (f84.1 12 0 (5) (by decide) (by decide)).trans (show gV τ14 12 0 5 = (gV τ 12 0 5) from (f16.1 12 0 (5) (by decide) (by decide)).trans rfl)))
                    have q96 : (gV τ82 12 0 6).toInt = (gV τ 12 0 6).toInt := congrArg Int32.toInt (show (gV τ82 12 0 6) = (gV τ 12 0 6) from (show gV τ82 12 0 6 = (gV τ 12 0 6) from (f84.1 12 0 (6) (by decide) (by decide)).trans (show gV τ14 12 0 6 = (gV τ 12 0 6) from (f16.1 12 0 (6) (by decide) (by decide)).trans rfl)))
                    have q97 : (gV τ82 12 0 7).toInt = (gV τ 12 0 7).toInt := congrArg Int32.toInt (show (gV τ82 12 0 7) = (gV τ 12 0 7) from (show gV τ82 12 0 7 = (gV τ 12 0 7) from (f84.1 12 0 (7) (by decide) (by decide)).trans (show gV τ14 12 0 7 = (gV τ 12 0 7) from (f16.1 12 0 (7) (by decide) (by decide)).trans rfl)))
                    show MW p l e _ s m args below meth c _ 4 G 8 24 100 [some (.ref (G.1 12 0)), some (.ref (G.1 1 j2)), some (.int y2), some (.int y3)] [.int x85] τ82
                    refine m_if_eq (tgt := 107) C dX6_readInto_100 (by decide) (fun c98 => ?_) (fun c98 => ?_)
                    · have f99 : x85.toInt = 0 := by
                        have q : _ := c98
                        simp only [ti_nle, ti_nlt, ti_le, ti_lt, ti_eq, ti_ne, Classical.not_not, kt_0] at q
                        omega
                      refine m_iconst (v := 0) C dX6_readInto_107 (by decide) ?_
                      refine m_istore_n (L1 := [some (.ref (G.1 12 0)), some (.ref (G.1 1 j2)), some (.int 0), some (.int y3)]) C dX6_readInto_108 rfl (by decide) rfl rfl ?_
                      refine m_aload_n C dX6_readInto_109 rfl rfl ?_
                      refine m_iconst (v := 0) C dX6_readInto_110 (by decide) ?_
                      refine p_12_1 C q1_38 dX6_readInto_111 ?_
                      refine m_tops (fun τ100 eτ100 => ?_)
                      have i101 : Inv τ100 := eτ100 ▸ Inv.put i83 (by decide) (iv_wk kc_0 (by decide))
                      have f102 : Fr MS_X6_readIntoT AS_X6_readIntoT σ τ100 := eτ100 ▸ Fr.put (g87) (Or.inl (by decide))
                      refine m_iload_n C dX6_readInto_114 rfl rfl ?_
                      have q104 : (gV τ100 1 j2 0).toInt = (gV τ 1 j2 0).toInt := congrArg Int32.toInt (show (gV τ100 1 j2 0) = (gV τ 1 j2 0) from (show gV τ100 1 j2 0 = (gV τ 1 j2 0) from gV_put eτ100 (show gV τ82 1 j2 0 = (gV τ 1 j2 0) from (f84.1 1 j2 (0) (by decide) (by decide)).trans (show gV τ14 1 j2 0 = (gV τ 1 j2 0) from (f16.1 1 j2 (0) (by decide) (by decide)).trans rfl))))
                      have q105 : (gV τ100 1 j2 2).toInt = (gV τ 1 j2 2).toInt := congrArg Int32.toInt (show (gV τ100 1 j2 2) = (gV τ 1 j2 2) from (show gV τ100 1 j2 2 = (gV τ 1 j2 2) from gV_put eτ100 (show gV τ82 1 j2 2 = (gV τ 1 j2 2) from (f84.1 1 j2 (2) (by decide) (by decide)).trans (show gV τ14 1 j2 2 = (gV τ 1 j2 2) from (f16.1 1 j2 (2) (by decide) (by decide)).trans rfl))))
                      have q106 : (gV τ100 1 j2 3).toInt = (gV τ 1 j2 3).toInt := congrArg Int32.toInt (show (gV τ100 1 j2 3) = (gV τ 1 j2 3) from (show gV τ100 1 j2 3 = (gV τ 1 j2 3) from gV_put eτ100 (show gV τ82 1 j2 3 = (gV τ 1 j2 3) from (f84.1 1 j2 (3) (by decide) (by decide)).trans (show gV τ14 1 j2 3 = (gV τ 1 j2 3) from (f16.1 1 j2 (3) (by decide) (by decide)).trans rfl))))
                      have q107 : (gV τ100 12 0 4).toInt = (gV τ 12 0 4).toInt := congrArg Int32.toInt (show (gV τ100 12 0 4) = (gV τ 12 0 4) from (show gV τ100 12 0 4 = (gV τ 12 0 4) from gV_put eτ100 (show gV τ82 12 0 4 = (gV τ 12 0 4) from (f84.1 12 0 (4) (by decide) (by decide)).trans (show gV τ14 12 0 4 = (gV τ 12 0 4) from (f16.1 12 0 (4) (by decide) (by decide)).trans rfl))))
                      have q108 : (gV τ100 12 0 5).toInt = (gV τ 12 0 5).toInt := congrArg Int32.toInt (show (gV τ100 12 0 5) = (gV τ 12 0 5) from (show gV τ100 12 0 5 = (gV τ 12 0 5) from gV_put eτ100 (show gV τ82 12 0 5 = (gV τ 12 0 5) from (f84.1 12 0 (5) (by decide) (by decide)).trans (show gV τ14 12 0 5 = (gV τ 12 0 5) from (f16.1 12 0 (5) (by decide) (by decide)).trans rfl))))
                      have q109 : (gV τ100 12 0 6).toInt = (gV τ 12 0 6).toInt := congrArg Int32.toInt (show (gV τ100 12 0 6) = (gV τ 12 0 6) from (show gV τ100 12 0 6 = (gV τ 12 0 6) from gV_put eτ100 (show gV τ82 12 0 6 = (gV τ 12 0 6) from (f84.1 12 0 (6) (by decide) (by decide)).trans (show gV τ14 12 0 6 = (gV τ 12 0 6) from (f16.1 12 0 (6) (by decide) (by decide)).trans rfl))))
                      have q110 : (gV τ100 12 0 7).toInt = (gV τ 12 0 7).toInt := congrArg Int32.toInt (show (gV τ100 12 0 7) = (gV τ 12 0 7) from (show gV τ100 12 0 7 = (gV τ 12 0 7) from gV_put eτ100 (show gV τ82 12 0 7 = (gV τ 12 0 7) from (f84.1 12 0 (7) (by decide) (by decide)).trans (show gV τ14 12 0 7 = (gV τ 12 0 7) from (f16.1 12 0 (7) (by decide) (by decide)).trans rfl))))
                      have q111 : (gV τ100 12 0 2).toInt = (gV τ82 12 0 2).toInt := congrArg Int32.toInt (show (gV τ100 12 0 2) = (gV τ82 12 0 2) from (show gV τ100 12 0 2 = (gV τ82 12 0 2) from gV_put eτ100 rfl))
                      have q112 : (gV τ100 12 0 3).toInt = (gV τ82 12 0 3).toInt := congrArg Int32.toInt (show (gV τ100 12 0 3) = (gV τ82 12 0 3) from (show gV τ100 12 0 3 = (gV τ82 12 0 3) from gV_put eτ100 rfl))
                      have q113 : (gV τ100 12 0 1).toInt = 0 := (congrArg Int32.toInt (show (gV τ100 12 0 1) = 0 from (show gV τ100 12 0 1 = 0 from gV_put eτ100 (gV_self _ _ _ _ _)))).trans kt_0
                      exact m_zret C hr rfl hlk (by decide) (by decide) dX6_readInto_115 ⟨_, rfl, i101, f102, (iv_wk kc_0 (by decide)), (by have qk := kt_0; have qn := nP.no (by omega); exact Or.inl ⟨by omega, by omega, by omega, by omega, by omega⟩)⟩
                    · exfalso
                      have q : _ := c98
                      simp only [ti_nle, ti_nlt, ti_le, ti_lt, ti_eq, ti_ne, Classical.not_not, kt_0] at q
                      have q1 := b86; have q2 := kc_0; omega
              · exfalso
                have q : _ := c58
                simp only [ti_nle, ti_nlt, ti_le, ti_lt, ti_eq, ti_ne, Classical.not_not, kt_0] at q
                have q1 := b57; have q2 := kc_0; omega
      · have b116 : IV y2 0 0 := ⟨by omega, by omega⟩
        refine m_iload_n C dX6_readInto_54 rfl rfl ?_
        refine m_if_eq (tgt := 84) C dX6_readInto_55 (by decide) (fun c117 => ?_) (fun c117 => ?_)
        · have f118 : y2.toInt = 0 := by
            have q : _ := c117
            simp only [ti_nle, ti_nlt, ti_le, ti_lt, ti_eq, ti_ne, Classical.not_not, kt_0] at q
            omega
          refine m_iload_n C dX6_readInto_84 rfl rfl ?_
          refine m_if_eq (tgt := 107) C dX6_readInto_85 (by decide) (fun c119 => ?_) (fun c119 => ?_)
          · have f120 : y2.toInt = 0 := by
              have q : _ := c119
              simp only [ti_nle, ti_nlt, ti_le, ti_lt, ti_eq, ti_ne, Classical.not_not, kt_0] at q
              omega
            refine m_iconst (v := 0) C dX6_readInto_107 (by decide) ?_
            refine m_istore_n (L1 := [some (.ref (G.1 12 0)), some (.ref (G.1 1 j2)), some (.int 0), some (.int y3)]) C dX6_readInto_108 rfl (by decide) rfl rfl ?_
            refine m_aload_n C dX6_readInto_109 rfl rfl ?_
            refine m_iconst (v := 0) C dX6_readInto_110 (by decide) ?_
            refine p_12_1 C q1_38 dX6_readInto_111 ?_
            refine m_tops (fun τ121 eτ121 => ?_)
            have i122 : Inv τ121 := eτ121 ▸ Inv.put iτ (by decide) (iv_wk kc_0 (by decide))
            have f123 : Fr MS_X6_readIntoT AS_X6_readIntoT σ τ121 := eτ121 ▸ Fr.put (fτ) (Or.inl (by decide))
            refine m_iload_n C dX6_readInto_114 rfl rfl ?_
            have q125 : (gV τ121 1 j2 0).toInt = (gV τ 1 j2 0).toInt := congrArg Int32.toInt (show (gV τ121 1 j2 0) = (gV τ 1 j2 0) from (show gV τ121 1 j2 0 = (gV τ 1 j2 0) from gV_put eτ121 rfl))
            have q126 : (gV τ121 1 j2 2).toInt = (gV τ 1 j2 2).toInt := congrArg Int32.toInt (show (gV τ121 1 j2 2) = (gV τ 1 j2 2) from (show gV τ121 1 j2 2 = (gV τ 1 j2 2) from gV_put eτ121 rfl))
            have q127 : (gV τ121 1 j2 3).toInt = (gV τ 1 j2 3).toInt := congrArg Int32.toInt (show (gV τ121 1 j2 3) = (gV τ 1 j2 3) from (show gV τ121 1 j2 3 = (gV τ 1 j2 3) from gV_put eτ121 rfl))
            have q128 : (gV τ121 12 0 2).toInt = (gV τ 12 0 2).toInt := congrArg Int32.toInt (show (gV τ121 12 0 2) = (gV τ 12 0 2) from (show gV τ121 12 0 2 = (gV τ 12 0 2) from gV_put eτ121 rfl))
            have q129 : (gV τ121 12 0 3).toInt = (gV τ 12 0 3).toInt := congrArg Int32.toInt (show (gV τ121 12 0 3) = (gV τ 12 0 3) from (show gV τ121 12 0 3 = (gV τ 12 0 3) from gV_put eτ121 rfl))
            have q130 : (gV τ121 12 0 4).toInt = (gV τ 12 0 4).toInt := congrArg Int32.toInt (show (gV τ121 12 0 4) = (gV τ 12 0 4) from (show gV τ121 12 0 4 = (gV τ 12 0 4) from gV_put eτ121 rfl))
            have q131 : (gV τ121 12 0 5).toInt = (gV τ 12 0 5).toInt := congrArg Int32.toInt (show (gV τ121 12 0 5) = (gV τ 12 0 5) from (show gV τ121 12 0 5 = (gV τ 12 0 5) from gV_put eτ121 rfl))
            have q132 : (gV τ121 12 0 6).toInt = (gV τ 12 0 6).toInt := congrArg Int32.toInt (show (gV τ121 12 0 6) = (gV τ 12 0 6) from (show gV τ121 12 0 6 = (gV τ 12 0 6) from gV_put eτ121 rfl))
            have q133 : (gV τ121 12 0 7).toInt = (gV τ 12 0 7).toInt := congrArg Int32.toInt (show (gV τ121 12 0 7) = (gV τ 12 0 7) from (show gV τ121 12 0 7 = (gV τ 12 0 7) from gV_put eτ121 rfl))
            have q134 : (gV τ121 12 0 1).toInt = 0 := (congrArg Int32.toInt (show (gV τ121 12 0 1) = 0 from (show gV τ121 12 0 1 = 0 from gV_put eτ121 (gV_self _ _ _ _ _)))).trans kt_0
            exact m_zret C hr rfl hlk (by decide) (by decide) dX6_readInto_115 ⟨_, rfl, i122, f123, (iv_wk kc_0 (by decide)), (by have qk := kt_0; exact Or.inl ⟨by omega, by omega, by omega, by omega, by omega⟩)⟩
          · exfalso
            have q : _ := c119
            simp only [ti_nle, ti_nlt, ti_le, ti_lt, ti_eq, ti_ne, Classical.not_not, kt_0] at q
            have q1 := b116; have q2 := kc_0; omega
        · exfalso
          have q : _ := c117
          simp only [ti_nle, ti_nlt, ti_le, ti_lt, ti_eq, ti_ne, Classical.not_not, kt_0] at q
          have q1 := b116; have q2 := kc_0; omega
  have J52 : ∀ (τ : Sg) (y2 : Int32) (q52 : Nat), Inv τ → Fr MS_X6_readIntoT AS_X6_readIntoT σ τ → IV y2 0 1 → (TpC τ T N) → (((y2.toInt = 1 ∧ (gV τ 12 0 2).toInt = (gV σ 12 0 2).toInt ∧ ((gV τ 12 0 4).toInt = (tS T q52 : Int) ∧ (gV τ 12 0 5).toInt = (tE T N q52 : Int) ∧ (gV τ 12 0 6).toInt = tK T N q52 ∧ (tK T N q52 = 2 → (gV τ 12 0 7).toInt = tV T q52)) ∧ (gV τ 1 j2 3).toInt = 0 ∧ SI_ T N (gV τ 1 j2 2).toInt.toNat (gV τ 1 j2 3).toInt.toNat q52) ∨ (y2.toInt = 0 ∧ outF T N ≠ 0 ∧ (gV τ 12 0 2).toInt = outF T N ∧ ((gV τ 12 0 3).toInt = outP T N ∧ 0 ≤ (gV τ 12 0 3).toInt ∧ (gV τ 12 0 3).toInt ≤ 400)))) → MW p l e { frames := 7, cells := 8, slots := 24, locals := 158 } s m args below meth c (MQ below (QP G (PI fun r τ => Inv τ ∧ Fr MS_X6_readIntoT AS_X6_readIntoT σ τ ∧ IV r 0 1 ∧ ((r.toInt = 0 ∧ outF T N ≠ 0 ∧ (gV τ 12 0 2).toInt = outF T N ∧ ((gV τ 12 0 3).toInt = outP T N ∧ 0 ≤ (gV τ 12 0 3).toInt ∧ (gV τ 12 0 3).toInt ≤ 400) ∧ (gV τ 12 0 1).toInt = 0) ∨ (r.toInt = 1 ∧ outF T N = 0 ∧ (gV τ 12 0 2).toInt = (gV σ 12 0 2).toInt ∧ (gV τ 1 j2 2).toInt = outN T N ∧ (gV τ 12 0 1).toInt = 0)))) args s 8 24 (aG G)) 4 G 8 24 52 [some (.ref (G.1 12 0)), some (.ref (G.1 1 j2)), some (.int y2), none] [] τ := by
    intro τ y2 q52 iτ fτ b_y2 v_T nR
    have u137 : IV (gV τ 1 j2 2) 0 7 := iτ.1 1 j2 2
    have u138 : IV (gV τ 1 j2 3) 0 4 := iτ.1 1 j2 3
    have u139 : IV (gV τ 12 0 1) 0 400 := iτ.1 12 0 1
    have u140 : IV (gV τ 12 0 4) 0 400 := iτ.1 12 0 4
    have u141 : IV (gV τ 12 0 5) 0 400 := iτ.1 12 0 5
    rcases nR with ⟨n0_, n1_, n2_, n3_, nP⟩ | ⟨n0_, n1_, n2_, n3_⟩
    · have b142 : IV y2 1 1 := ⟨by omega, by omega⟩
      refine m_iconst (v := 0) C dX6_readInto_52 (by decide) ?_
      refine m_istore_n (L1 := [some (.ref (G.1 12 0)), some (.ref (G.1 1 j2)), some (.int y2), some (.int 0)]) C dX6_readInto_53 rfl (by decide) rfl rfl ?_
      refine m_widen (c2 := 8) (s2 := 24) (by omega) (by omega) ?_
      exact J54 ((5 - (0 : Int32).toInt).toNat + 1) τ y2 0 q52 iτ fτ (iv_wk b142 (by decide)) (iv_wk kc_0 (by decide)) v_T (Or.inl (by have q3_ := kt_0; exact ⟨by omega, by omega, by omega, by omega, (by rw [show (gV τ 1 j2 2).toInt.toNat = (gV τ 1 j2 2).toInt.toNat by omega, show (gV τ 1 j2 3).toInt.toNat = (gV τ 1 j2 3).toInt.toNat by omega]; exact nP)⟩)) (Nat.lt_succ_self _)
    · have b143 : IV y2 0 0 := ⟨by omega, by omega⟩
      refine m_iconst (v := 0) C dX6_readInto_52 (by decide) ?_
      refine m_istore_n (L1 := [some (.ref (G.1 12 0)), some (.ref (G.1 1 j2)), some (.int y2), some (.int 0)]) C dX6_readInto_53 rfl (by decide) rfl rfl ?_
      refine m_widen (c2 := 8) (s2 := 24) (by omega) (by omega) ?_
      exact J54 ((5 - (0 : Int32).toInt).toNat + 1) τ y2 0 q52 iτ fτ (iv_wk b143 (by decide)) (iv_wk kc_0 (by decide)) v_T (Or.inr (by have q3_ := kt_0; exact ⟨by omega, by omega, by omega, by omega⟩)) (Nat.lt_succ_self _)
  have J21 : ∀ (n : Nat) (τ : Sg) (y2 : Int32) (y3 : Int32) (q21 : Nat), Inv τ → Fr MS_X6_readIntoT AS_X6_readIntoT σ τ → IV y2 0 1 → IV y3 0 8 → (TpC τ T N) → (((y2.toInt = 1 ∧ (gV τ 12 0 2).toInt = (gV σ 12 0 2).toInt ∧ ((gV τ 12 0 4).toInt = (tS T q21 : Int) ∧ (gV τ 12 0 5).toInt = (tE T N q21 : Int) ∧ (gV τ 12 0 6).toInt = tK T N q21 ∧ (tK T N q21 = 2 → (gV τ 12 0 7).toInt = tV T q21)) ∧ (gV τ 1 j2 0).toInt = tV T (tE T N 0) ∧ 4 ≤ (gV τ 1 j2 0).toInt ∧ (gV τ 1 j2 0).toInt ≤ 32 ∧ y3.toInt = (gV τ 1 j2 2).toInt ∧ (gV τ 1 j2 3).toInt = 0 ∧ PI_ T N (gV τ 1 j2 2).toInt.toNat q21) ∨ (y2.toInt = 0 ∧ outF T N ≠ 0 ∧ (gV τ 12 0 2).toInt = outF T N ∧ ((gV τ 12 0 3).toInt = outP T N ∧ 0 ≤ (gV τ 12 0 3).toInt ∧ (gV τ 12 0 3).toInt ≤ 400)))) → (8 - y3.toInt).toNat < n → MW p l e { frames := 7, cells := 8, slots := 24, locals := 158 } s m args below meth c (MQ below (QP G (PI fun r τ => Inv τ ∧ Fr MS_X6_readIntoT AS_X6_readIntoT σ τ ∧ IV r 0 1 ∧ ((r.toInt = 0 ∧ outF T N ≠ 0 ∧ (gV τ 12 0 2).toInt = outF T N ∧ ((gV τ 12 0 3).toInt = outP T N ∧ 0 ≤ (gV τ 12 0 3).toInt ∧ (gV τ 12 0 3).toInt ≤ 400) ∧ (gV τ 12 0 1).toInt = 0) ∨ (r.toInt = 1 ∧ outF T N = 0 ∧ (gV τ 12 0 2).toInt = (gV σ 12 0 2).toInt ∧ (gV τ 1 j2 2).toInt = outN T N ∧ (gV τ 12 0 1).toInt = 0)))) args s 8 24 (aG G)) 4 G (y3.toInt.toNat) (3 * y3.toInt.toNat) 21 [some (.ref (G.1 12 0)), some (.ref (G.1 1 j2)), some (.int y2), some (.int y3)] [] τ := by
    intro n
    induction n with
    | zero => intro τ y2 y3 q21 iτ fτ b_y2 b_y3 v_T nR hm; exact absurd hm (Nat.not_lt_zero _)
    | succ n ih21 =>
      intro τ y2 y3 q21 iτ fτ b_y2 b_y3 v_T nR hm21
      have u144 : IV (gV τ 1 j2 2) 0 7 := iτ.1 1 j2 2
      have u145 : IV (gV τ 1 j2 3) 0 4 := iτ.1 1 j2 3
      have u146 : IV (gV τ 12 0 1) 0 400 := iτ.1 12 0 1
      have u147 : IV (gV τ 12 0 4) 0 400 := iτ.1 12 0 4
      have u148 : IV (gV τ 12 0 5) 0 400 := iτ.1 12 0 5
      rcases nR with ⟨n0_, n1_, n2_, n3_, n4_, n5_, n6_, n7_, nP⟩ | ⟨n0_, n1_, n2_, n3_⟩
      · have b149 : IV y2 1 1 := ⟨by omega, by omega⟩
        have b150 : IV y3 0 7 := ⟨by omega, by omega⟩
        refine m_iload_n C dX6_readInto_21 rfl rfl ?_
        refine m_if_eq (tgt := 52) C dX6_readInto_22 (by decide) (fun c151 => ?_) (fun c151 => ?_)
        · exfalso
          have q : _ := c151
          simp only [ti_nle, ti_nlt, ti_le, ti_lt, ti_eq, ti_ne, Classical.not_not, kt_0] at q
          have q1 := b149; have q2 := kc_0; omega
        · have f153 : y2.toInt ≠ 0 := by
            have q : _ := c151
            simp only [ti_nle, ti_nlt, ti_le, ti_lt, ti_eq, ti_ne, Classical.not_not, kt_0] at q
            omega
          refine m_iload_n C dX6_readInto_25 rfl rfl ?_
          refine m_bipush (v := 7) C dX6_readInto_26 (by decide) ?_
          refine m_icmp_gt (tgt := 52) C dX6_readInto_28 (by decide) (fun c154 => ?_) (fun c154 => ?_)
          · exfalso
            have q : _ := c154
            simp only [ti_nle, ti_nlt, ti_le, ti_lt, ti_eq, ti_ne, Classical.not_not, kt_7] at q
            have q1 := b150; have q2 := kc_7; omega
          · have f156 : y3.toInt ≤ 7 := by
              have q : _ := c154
              simp only [ti_nle, ti_nlt, ti_le, ti_lt, ti_eq, ti_ne, Classical.not_not, kt_7] at q
              omega
            refine m_aload_n C dX6_readInto_31 rfl rfl ?_
            refine s_ldc (w := 1) (tx := "") C rfl (by decide) rfl dX6_readInto_32 ?_
            refine m_callV (n := 1) (ci := 5) (st := []) C (c_X6_isWordE l G τ T N q21 (w := 1) (by decide) iτ v_T (by omega)) (by decide) (by decide) rfl rfl rfl q2_89 q2_86 q2_88 q0_7 q1_2 (by decide +kernel) rfl (by decide) ⟨by show (y3.toInt.toNat) + 0 ≤ 8; omega, by show (3 * y3.toInt.toNat) + 0 ≤ 24; omega⟩ rfl (Nat.le_of_ble_eq_true rfl) dX6_readInto_34 ?_
            rintro _ τ157 ⟨x160, rfl, i158, f159, b161, h163⟩
            have g162 : Fr MS_X6_readIntoT AS_X6_readIntoT σ τ157 := Fr.call (fτ) f159 (by decide)
            have v164 : TpC τ157 T N := v_T.fr f159 (by decide) (by decide) (by simp) (by decide)
            have q165 : (gV τ157 1 j2 0).toInt = (gV τ 1 j2 0).toInt := congrArg Int32.toInt (show (gV τ157 1 j2 0) = (gV τ 1 j2 0) from (show gV τ157 1 j2 0 = (gV τ 1 j2 0) from (f159.1 1 j2 (0) (by decide) (by decide)).trans rfl))
            have q166 : (gV τ157 1 j2 2).toInt = (gV τ 1 j2 2).toInt := congrArg Int32.toInt (show (gV τ157 1 j2 2) = (gV τ 1 j2 2) from (show gV τ157 1 j2 2 = (gV τ 1 j2 2) from (f159.1 1 j2 (2) (by decide) (by decide)).trans rfl))
            have q167 : (gV τ157 1 j2 3).toInt = (gV τ 1 j2 3).toInt := congrArg Int32.toInt (show (gV τ157 1 j2 3) = (gV τ 1 j2 3) from (show gV τ157 1 j2 3 = (gV τ 1 j2 3) from (f159.1 1 j2 (3) (by decide) (by decide)).trans rfl))
            have q168 : (gV τ157 12 0 1).toInt = (gV τ 12 0 1).toInt := congrArg Int32.toInt (show (gV τ157 12 0 1) = (gV τ 12 0 1) from (show gV τ157 12 0 1 = (gV τ 12 0 1) from (f159.1 12 0 (1) (by decide) (by decide)).trans rfl))
            have q169 : (gV τ157 12 0 2).toInt = (gV τ 12 0 2).toInt := congrArg Int32.toInt (show (gV τ157 12 0 2) = (gV τ 12 0 2) from (show gV τ157 12 0 2 = (gV τ 12 0 2) from (f159.1 12 0 (2) (by decide) (by decide)).trans rfl))
            have q170 : (gV τ157 12 0 3).toInt = (gV τ 12 0 3).toInt := congrArg Int32.toInt (show (gV τ157 12 0 3) = (gV τ 12 0 3) from (show gV τ157 12 0 3 = (gV τ 12 0 3) from (f159.1 12 0 (3) (by decide) (by decide)).trans rfl))
            have q171 : (gV τ157 12 0 4).toInt = (gV τ 12 0 4).toInt := congrArg Int32.toInt (show (gV τ157 12 0 4) = (gV τ 12 0 4) from (show gV τ157 12 0 4 = (gV τ 12 0 4) from (f159.1 12 0 (4) (by decide) (by decide)).trans rfl))
            have q172 : (gV τ157 12 0 5).toInt = (gV τ 12 0 5).toInt := congrArg Int32.toInt (show (gV τ157 12 0 5) = (gV τ 12 0 5) from (show gV τ157 12 0 5 = (gV τ 12 0 5) from (f159.1 12 0 (5) (by decide) (by decide)).trans rfl))
            have q173 : (gV τ157 12 0 6).toInt = (gV τ 12 0 6).toInt := congrArg Int32.toInt (show (gV τ157 12 0 6) = (gV τ 12 0 6) from (show gV τ157 12 0 6 = (gV τ 12 0 6) from (f159.1 12 0 (6) (by decide) (by decide)).trans rfl))
            have q174 : (gV τ157 12 0 7).toInt = (gV τ 12 0 7).toInt := congrArg Int32.toInt (show (gV τ157 12 0 7) = (gV τ 12 0 7) from (show gV τ157 12 0 7 = (gV τ 12 0 7) from (f159.1 12 0 (7) (by decide) (by decide)).trans rfl))
            rcases h163 with ⟨h163_0, h163_1, h163_2⟩ | ⟨h163_0, h163_1⟩
            · skip
              have b175 : IV x160 1 1 := ⟨by omega, by omega⟩
              show MW p l e _ s m args below meth c _ 4 G (y3.toInt.toNat) (3 * y3.toInt.toNat) 37 [some (.ref (G.1 12 0)), some (.ref (G.1 1 j2)), some (.int y2), some (.int y3)] [.int x160] τ157
              refine m_if_eq (tgt := 52) C dX6_readInto_37 (by decide) (fun c176 => ?_) (fun c176 => ?_)
              · exfalso
                have q : _ := c176
                simp only [ti_nle, ti_nlt, ti_le, ti_lt, ti_eq, ti_ne, Classical.not_not, kt_0] at q
                have q1 := b175; have q2 := kc_0; omega
              · have f178 : x160.toInt ≠ 0 := by
                  have q : _ := c176
                  simp only [ti_nle, ti_nlt, ti_le, ti_lt, ti_eq, ti_ne, Classical.not_not, kt_0] at q
                  omega
                refine m_aload_n C dX6_readInto_40 rfl rfl ?_
                refine m_aload_n C dX6_readInto_41 rfl rfl ?_
                refine m_callV (n := 1) (ci := 5) (st := []) C (c_X6_readPersonE l G τ157 T N q21 (tV T (tE T N 0)) ((gV τ 1 j2 2).toInt.toNat : Nat) (j2 := j2) hj2 i158 v164 (by omega) (by omega)) (by decide) (by decide) rfl rfl rfl q2_154 q2_151 q2_153 q0_11 q1_2 (by decide +kernel) rfl (by decide) ⟨by show (y3.toInt.toNat) + 1 ≤ 8; omega, by show (3 * y3.toInt.toNat) + 3 ≤ 24; omega⟩ rfl (Nat.le_of_ble_eq_true rfl) dX6_readInto_42 ?_
                rintro _ τ179 ⟨x182, rfl, i180, f181, b183, h185⟩
                have g184 : Fr MS_X6_readIntoT AS_X6_readIntoT σ τ179 := Fr.call (g162) f181 (by decide)
                have v186 : TpC τ179 T N := v164.fr f181 (by decide) (by decide) (by simp) (by decide)
                have u187 : IV (gV τ179 1 j2 2) 0 7 := i180.1 1 j2 2
                have u188 : IV (gV τ179 12 0 4) 0 400 := i180.1 12 0 4
                have u189 : IV (gV τ179 12 0 5) 0 400 := i180.1 12 0 5
                have q190 : (gV τ179 1 j2 0).toInt = (gV τ 1 j2 0).toInt := congrArg Int32.toInt (show (gV τ179 1 j2 0) = (gV τ 1 j2 0) from (show gV τ179 1 j2 0 = (gV τ 1 j2 0) from (f181.1 1 j2 (0) (by decide) (by decide)).trans (show gV τ157 1 j2 0 = (gV τ 1 j2 0) from (f159.1 1 j2 (0) (by decide) (by decide)).trans rfl)))
                have q191 : (gV τ179 1 j2 3).toInt = (gV τ 1 j2 3).toInt := congrArg Int32.toInt (show (gV τ179 1 j2 3) = (gV τ 1 j2 3) from (show gV τ179 1 j2 3 = (gV τ 1 j2 3) from (f181.1 1 j2 (3) (by decide) (by decide)).trans (show gV τ157 1 j2 3 = (gV τ 1 j2 3) from (f159.1 1 j2 (3) (by decide) (by decide)).trans rfl)))
                have q192 : (gV τ179 12 0 1).toInt = (gV τ 12 0 1).toInt := congrArg Int32.toInt (show (gV τ179 12 0 1) = (gV τ 12 0 1) from (show gV τ179 12 0 1 = (gV τ 12 0 1) from (f181.1 12 0 (1) (by decide) (by decide)).trans (show gV τ157 12 0 1 = (gV τ 12 0 1) from (f159.1 12 0 (1) (by decide) (by decide)).trans rfl)))
                rcases h185 with ⟨h185_0, h185_1, h185_2, h185_3⟩ | ⟨h185_0, h185_1, h185_2, h185_3, h185_4⟩
                · skip
                  have b193 : IV x182 0 0 := ⟨by omega, by omega⟩
                  have q194 := nP.bad (by omega) ⟨by omega, by omega⟩ h185_1
                  show MW p l e _ s m args below meth c _ 4 G ((y3.toInt.toNat) + 1) ((3 * y3.toInt.toNat) + 3) 45 [some (.ref (G.1 12 0)), some (.ref (G.1 1 j2)), some (.int y2), some (.int y3)] [.int x182] τ179
                  refine m_istore_n (L1 := [some (.ref (G.1 12 0)), some (.ref (G.1 1 j2)), some (.int x182), some (.int y3)]) C dX6_readInto_45 rfl (by decide) rfl rfl ?_
                  obtain ⟨x195, ex195⟩ : ∃ y : Int32, y = y3 + 1 := ⟨_, rfl⟩
                  have tx195 : x195.toInt = y3.toInt + 1 := by rw [ex195, ti_addv b150 kc_1 (by decide), kt_1]
                  have b196 : IV x195 1 8 := by rw [ex195]; exact iv_add b150 kc_1 (by decide)
                  refine m_iinc (v := x195) (L1 := [some (.ref (G.1 12 0)), some (.ref (G.1 1 j2)), some (.int x182), some (.int x195)]) C dX6_readInto_46 rfl (by rw [ex195]; rfl) (by decide) rfl rfl ?_
                  refine m_goto (tgt := 21) C dX6_readInto_49 (by decide) ?_
                  refine m_widen (c2 := (x195.toInt.toNat)) (s2 := (3 * x195.toInt.toNat)) (by omega) (by omega) ?_
                  exact ih21 τ179 x182 x195 (tE T N (tE T N (tE T N (tE T N (tE T N (tE T N q21)))))) i180 g184 (iv_wk b193 (by decide)) (iv_wk b196 (by decide)) v186 (Or.inr (by exact ⟨by omega, by omega, by omega, by omega⟩)) (by have q := hm21; omega)
                · skip
                  have b197 : IV x182 1 1 := ⟨by omega, by omega⟩
                  show MW p l e _ s m args below meth c _ 4 G ((y3.toInt.toNat) + 1) ((3 * y3.toInt.toNat) + 3) 45 [some (.ref (G.1 12 0)), some (.ref (G.1 1 j2)), some (.int y2), some (.int y3)] [.int x182] τ179
                  refine m_istore_n (L1 := [some (.ref (G.1 12 0)), some (.ref (G.1 1 j2)), some (.int x182), some (.int y3)]) C dX6_readInto_45 rfl (by decide) rfl rfl ?_
                  obtain ⟨x198, ex198⟩ : ∃ y : Int32, y = y3 + 1 := ⟨_, rfl⟩
                  have tx198 : x198.toInt = y3.toInt + 1 := by rw [ex198, ti_addv b150 kc_1 (by decide), kt_1]
                  have b199 : IV x198 1 8 := by rw [ex198]; exact iv_add b150 kc_1 (by decide)
                  refine m_iinc (v := x198) (L1 := [some (.ref (G.1 12 0)), some (.ref (G.1 1 j2)), some (.int x182), some (.int x198)]) C dX6_readInto_46 rfl (by rw [ex198]; rfl) (by decide) rfl rfl ?_
                  refine m_goto (tgt := 21) C dX6_readInto_49 (by decide) ?_
                  refine m_widen (c2 := (x198.toInt.toNat)) (s2 := (3 * x198.toInt.toNat)) (by omega) (by omega) ?_
                  exact ih21 τ179 x182 x198 (tE T N (tE T N (tE T N (tE T N (tE T N (tE T N q21)))))) i180 g184 (iv_wk b197 (by decide)) (iv_wk b199 (by decide)) v186 (Or.inl (by exact ⟨by omega, by omega, by omega, by omega, by omega, by omega, by omega, by omega, (by rw [show (gV τ179 1 j2 2).toInt.toNat = (gV τ 1 j2 2).toInt.toNat + 1 by omega]; exact nP.go (by omega) ⟨by omega, by omega⟩ (by omega))⟩)) (by have q := hm21; omega)
            · skip
              have b200 : IV x160 0 0 := ⟨by omega, by omega⟩
              show MW p l e _ s m args below meth c _ 4 G (y3.toInt.toNat) (3 * y3.toInt.toNat) 37 [some (.ref (G.1 12 0)), some (.ref (G.1 1 j2)), some (.int y2), some (.int y3)] [.int x160] τ157
              refine m_if_eq (tgt := 52) C dX6_readInto_37 (by decide) (fun c201 => ?_) (fun c201 => ?_)
              · have f202 : x160.toInt = 0 := by
                  have q : _ := c201
                  simp only [ti_nle, ti_nlt, ti_le, ti_lt, ti_eq, ti_ne, Classical.not_not, kt_0] at q
                  omega
                refine m_widen (c2 := 8) (s2 := 24) (by omega) (by omega) ?_
                refine m_sub (L1 := [some (.ref (G.1 12 0)), some (.ref (G.1 1 j2)), some (.int y2), none]) ⟨rfl, ⟨rfl, ⟨rfl, trivial⟩⟩⟩ ?_
                exact J52 τ157 y2 q21 i158 g162 (iv_wk b149 (by decide)) v164 (Or.inl (by exact ⟨by omega, by omega, by omega, by omega, by rw [show (gV τ157 1 j2 2).toInt.toNat = (gV τ 1 j2 2).toInt.toNat by omega, show (gV τ157 1 j2 3).toInt.toNat = 0 by omega]; exact nP.no (by omega)⟩))
              · exfalso
                have q : _ := c201
                simp only [ti_nle, ti_nlt, ti_le, ti_lt, ti_eq, ti_ne, Classical.not_not, kt_0] at q
                have q1 := b200; have q2 := kc_0; omega
      · have b204 : IV y2 0 0 := ⟨by omega, by omega⟩
        refine m_iload_n C dX6_readInto_21 rfl rfl ?_
        refine m_if_eq (tgt := 52) C dX6_readInto_22 (by decide) (fun c205 => ?_) (fun c205 => ?_)
        · have f206 : y2.toInt = 0 := by
            have q : _ := c205
            simp only [ti_nle, ti_nlt, ti_le, ti_lt, ti_eq, ti_ne, Classical.not_not, kt_0] at q
            omega
          refine m_widen (c2 := 8) (s2 := 24) (by omega) (by omega) ?_
          refine m_sub (L1 := [some (.ref (G.1 12 0)), some (.ref (G.1 1 j2)), some (.int y2), none]) ⟨rfl, ⟨rfl, ⟨rfl, trivial⟩⟩⟩ ?_
          exact J52 τ y2 q21 iτ fτ (iv_wk b204 (by decide)) v_T (Or.inr (by exact ⟨by omega, by omega, by omega, by omega⟩))
        · exfalso
          have q : _ := c205
          simp only [ti_nle, ti_nlt, ti_le, ti_lt, ti_eq, ti_ne, Classical.not_not, kt_0] at q
          have q1 := b204; have q2 := kc_0; omega
  have u208 : IV (gV σ 1 j2 2) 0 7 := hI.1 1 j2 2
  have u209 : IV (gV σ 1 j2 3) 0 4 := hI.1 1 j2 3
  have u210 : IV (gV σ 12 0 1) 0 400 := hI.1 12 0 1
  have u211 : IV (gV σ 12 0 4) 0 400 := hI.1 12 0 4
  have u212 : IV (gV σ 12 0 5) 0 400 := hI.1 12 0 5
  refine m_aload_n C dX6_readInto_0 rfl rfl ?_
  refine m_callV (n := 0) (ci := 7) (st := []) C (c_X8_clearE l G σ (j := j2) hj2  hI ) (by decide) hj2 rfl rfl rfl q2_59 q2_56 q2_57 q2_58 q1_3 (by decide +kernel) rfl (by decide) (by decide) rfl (Nat.le_of_ble_eq_true rfl) dX6_readInto_1 ?_
  rintro _ τ213 ⟨rfl, i214, f215, h219⟩
  have g218 : Fr MS_X6_readIntoT AS_X6_readIntoT σ τ213 := Fr.call (Fr.rf) f215 (by decide)
  have v220 : TpC τ213 T N := hT.fr f215 (by decide) (by decide) (by simp) (by decide)
  have u221 : IV (gV τ213 1 j2 2) 0 7 := i214.1 1 j2 2
  have u222 : IV (gV τ213 1 j2 3) 0 4 := i214.1 1 j2 3
  have q223 : (gV τ213 12 0 1).toInt = (gV σ 12 0 1).toInt := congrArg Int32.toInt (show (gV τ213 12 0 1) = (gV σ 12 0 1) from (show gV τ213 12 0 1 = (gV σ 12 0 1) from (f215.1 12 0 (1) (by decide) (by decide)).trans rfl))
  have q224 : (gV τ213 12 0 2).toInt = (gV σ 12 0 2).toInt := congrArg Int32.toInt (show (gV τ213 12 0 2) = (gV σ 12 0 2) from (show gV τ213 12 0 2 = (gV σ 12 0 2) from (f215.1 12 0 (2) (by decide) (by decide)).trans rfl))
  have q225 : (gV τ213 12 0 3).toInt = (gV σ 12 0 3).toInt := congrArg Int32.toInt (show (gV τ213 12 0 3) = (gV σ 12 0 3) from (show gV τ213 12 0 3 = (gV σ 12 0 3) from (f215.1 12 0 (3) (by decide) (by decide)).trans rfl))
  have q226 : (gV τ213 12 0 4).toInt = (gV σ 12 0 4).toInt := congrArg Int32.toInt (show (gV τ213 12 0 4) = (gV σ 12 0 4) from (show gV τ213 12 0 4 = (gV σ 12 0 4) from (f215.1 12 0 (4) (by decide) (by decide)).trans rfl))
  have q227 : (gV τ213 12 0 5).toInt = (gV σ 12 0 5).toInt := congrArg Int32.toInt (show (gV τ213 12 0 5) = (gV σ 12 0 5) from (show gV τ213 12 0 5 = (gV σ 12 0 5) from (f215.1 12 0 (5) (by decide) (by decide)).trans rfl))
  have q228 : (gV τ213 12 0 6).toInt = (gV σ 12 0 6).toInt := congrArg Int32.toInt (show (gV τ213 12 0 6) = (gV σ 12 0 6) from (show gV τ213 12 0 6 = (gV σ 12 0 6) from (f215.1 12 0 (6) (by decide) (by decide)).trans rfl))
  have q229 : (gV τ213 12 0 7).toInt = (gV σ 12 0 7).toInt := congrArg Int32.toInt (show (gV τ213 12 0 7) = (gV σ 12 0 7) from (show gV τ213 12 0 7 = (gV σ 12 0 7) from (f215.1 12 0 (7) (by decide) (by decide)).trans rfl))
  show MW p l e _ s m args below meth c _ 4 G 0 0 4 [some (.ref (G.1 12 0)), some (.ref (G.1 1 j2)), none, none] [] τ213
  refine m_aload_n C dX6_readInto_4 rfl rfl ?_
  refine m_iconst (v := 0) C dX6_readInto_5 (by decide) ?_
  refine p_12_5 C q1_45 dX6_readInto_6 ?_
  refine m_tops (fun τ230 eτ230 => ?_)
  have i231 : Inv τ230 := eτ230 ▸ Inv.put i214 (by decide) (iv_wk kc_0 (by decide))
  have f232 : Fr MS_X6_readIntoT AS_X6_readIntoT σ τ230 := eτ230 ▸ Fr.put (g218) (Or.inl (by decide))
  have v233 : TpC τ230 T N := v220.put eτ230 (Or.inr (by decide)) (by decide)
  refine m_aload_n C dX6_readInto_9 rfl rfl ?_
  have q234 : (gV τ230 12 0 1).toInt = (gV σ 12 0 1).toInt := congrArg Int32.toInt (show (gV τ230 12 0 1) = (gV σ 12 0 1) from (show gV τ230 12 0 1 = (gV σ 12 0 1) from gV_put eτ230 (show gV τ213 12 0 1 = (gV σ 12 0 1) from (f215.1 12 0 (1) (by decide) (by decide)).trans rfl)))
  have q235 : (gV τ230 12 0 2).toInt = (gV σ 12 0 2).toInt := congrArg Int32.toInt (show (gV τ230 12 0 2) = (gV σ 12 0 2) from (show gV τ230 12 0 2 = (gV σ 12 0 2) from gV_put eτ230 (show gV τ213 12 0 2 = (gV σ 12 0 2) from (f215.1 12 0 (2) (by decide) (by decide)).trans rfl)))
  have q236 : (gV τ230 12 0 3).toInt = (gV σ 12 0 3).toInt := congrArg Int32.toInt (show (gV τ230 12 0 3) = (gV σ 12 0 3) from (show gV τ230 12 0 3 = (gV σ 12 0 3) from gV_put eτ230 (show gV τ213 12 0 3 = (gV σ 12 0 3) from (f215.1 12 0 (3) (by decide) (by decide)).trans rfl)))
  have q237 : (gV τ230 12 0 4).toInt = (gV σ 12 0 4).toInt := congrArg Int32.toInt (show (gV τ230 12 0 4) = (gV σ 12 0 4) from (show gV τ230 12 0 4 = (gV σ 12 0 4) from gV_put eτ230 (show gV τ213 12 0 4 = (gV σ 12 0 4) from (f215.1 12 0 (4) (by decide) (by decide)).trans rfl)))
  have q238 : (gV τ230 12 0 6).toInt = (gV σ 12 0 6).toInt := congrArg Int32.toInt (show (gV τ230 12 0 6) = (gV σ 12 0 6) from (show gV τ230 12 0 6 = (gV σ 12 0 6) from gV_put eτ230 (show gV τ213 12 0 6 = (gV σ 12 0 6) from (f215.1 12 0 (6) (by decide) (by decide)).trans rfl)))
  have q239 : (gV τ230 12 0 7).toInt = (gV σ 12 0 7).toInt := congrArg Int32.toInt (show (gV τ230 12 0 7) = (gV σ 12 0 7) from (show gV τ230 12 0 7 = (gV σ 12 0 7) from gV_put eτ230 (show gV τ213 12 0 7 = (gV σ 12 0 7) from (f215.1 12 0 (7) (by decide) (by decide)).trans rfl)))
  have q240 : (gV τ230 1 j2 0).toInt = (gV τ213 1 j2 0).toInt := congrArg Int32.toInt (show (gV τ230 1 j2 0) = (gV τ213 1 j2 0) from (show gV τ230 1 j2 0 = (gV τ213 1 j2 0) from gV_put eτ230 rfl))
  have q241 : (gV τ230 1 j2 2).toInt = (gV τ213 1 j2 2).toInt := congrArg Int32.toInt (show (gV τ230 1 j2 2) = (gV τ213 1 j2 2) from (show gV τ230 1 j2 2 = (gV τ213 1 j2 2) from gV_put eτ230 rfl))
  have q242 : (gV τ230 1 j2 3).toInt = (gV τ213 1 j2 3).toInt := congrArg Int32.toInt (show (gV τ230 1 j2 3) = (gV τ213 1 j2 3) from (show gV τ230 1 j2 3 = (gV τ213 1 j2 3) from gV_put eτ230 rfl))
  have q243 : (gV τ230 12 0 5).toInt = 0 := (congrArg Int32.toInt (show (gV τ230 12 0 5) = 0 from (show gV τ230 12 0 5 = 0 from gV_put eτ230 (gV_self _ _ _ _ _)))).trans kt_0
  refine m_callV (n := 0) (ci := 5) (st := []) C (c_X6_nextE l G τ230 T N 0  i231 v233 (by omega)) (by decide) (by decide) rfl rfl rfl q2_63 q2_60 q2_62 q0_3 q1_2 (by decide +kernel) rfl (by decide) (by decide) rfl (Nat.le_of_ble_eq_true rfl) dX6_readInto_10 ?_
  rintro _ τ244 ⟨rfl, i245, f246, h250⟩
  have g249 : Fr MS_X6_readIntoT AS_X6_readIntoT σ τ244 := Fr.call (f232) f246 (by decide)
  have v251 : TpC τ244 T N := v233.fr f246 (by decide) (by decide) (by simp) (by decide)
  have u252 : IV (gV τ244 12 0 4) 0 400 := i245.1 12 0 4
  have u253 : IV (gV τ244 12 0 5) 0 400 := i245.1 12 0 5
  have q254 : (gV τ244 12 0 1).toInt = (gV σ 12 0 1).toInt := congrArg Int32.toInt (show (gV τ244 12 0 1) = (gV σ 12 0 1) from (show gV τ244 12 0 1 = (gV σ 12 0 1) from (f246.1 12 0 (1) (by decide) (by decide)).trans (show gV τ230 12 0 1 = (gV σ 12 0 1) from gV_put eτ230 (show gV τ213 12 0 1 = (gV σ 12 0 1) from (f215.1 12 0 (1) (by decide) (by decide)).trans rfl))))
  have q255 : (gV τ244 12 0 2).toInt = (gV σ 12 0 2).toInt := congrArg Int32.toInt (show (gV τ244 12 0 2) = (gV σ 12 0 2) from (show gV τ244 12 0 2 = (gV σ 12 0 2) from (f246.1 12 0 (2) (by decide) (by decide)).trans (show gV τ230 12 0 2 = (gV σ 12 0 2) from gV_put eτ230 (show gV τ213 12 0 2 = (gV σ 12 0 2) from (f215.1 12 0 (2) (by decide) (by decide)).trans rfl))))
  have q256 : (gV τ244 12 0 3).toInt = (gV σ 12 0 3).toInt := congrArg Int32.toInt (show (gV τ244 12 0 3) = (gV σ 12 0 3) from (show gV τ244 12 0 3 = (gV σ 12 0 3) from (f246.1 12 0 (3) (by decide) (by decide)).trans (show gV τ230 12 0 3 = (gV σ 12 0 3) from gV_put eτ230 (show gV τ213 12 0 3 = (gV σ 12 0 3) from (f215.1 12 0 (3) (by decide) (by decide)).trans rfl))))
  have q257 : (gV τ244 1 j2 0).toInt = (gV τ213 1 j2 0).toInt := congrArg Int32.toInt (show (gV τ244 1 j2 0) = (gV τ213 1 j2 0) from (show gV τ244 1 j2 0 = (gV τ213 1 j2 0) from (f246.1 1 j2 (0) (by decide) (by decide)).trans (show gV τ230 1 j2 0 = (gV τ213 1 j2 0) from gV_put eτ230 rfl)))
  have q258 : (gV τ244 1 j2 2).toInt = (gV τ213 1 j2 2).toInt := congrArg Int32.toInt (show (gV τ244 1 j2 2) = (gV τ213 1 j2 2) from (show gV τ244 1 j2 2 = (gV τ213 1 j2 2) from (f246.1 1 j2 (2) (by decide) (by decide)).trans (show gV τ230 1 j2 2 = (gV τ213 1 j2 2) from gV_put eτ230 rfl)))
  have q259 : (gV τ244 1 j2 3).toInt = (gV τ213 1 j2 3).toInt := congrArg Int32.toInt (show (gV τ244 1 j2 3) = (gV τ213 1 j2 3) from (show gV τ244 1 j2 3 = (gV τ213 1 j2 3) from (f246.1 1 j2 (3) (by decide) (by decide)).trans (show gV τ230 1 j2 3 = (gV τ213 1 j2 3) from gV_put eτ230 rfl)))
  show MW p l e _ s m args below meth c _ 4 G 0 0 13 [some (.ref (G.1 12 0)), some (.ref (G.1 1 j2)), none, none] [] τ244
  refine m_aload_n C dX6_readInto_13 rfl rfl ?_
  refine m_aload_n C dX6_readInto_14 rfl rfl ?_
  refine m_callV (n := 1) (ci := 5) (st := []) C (c_X6_readLawE l G τ244 T N 0 (j2 := j2) hj2 i245 v251 (by omega)) (by decide) (by decide) rfl rfl rfl q2_84 q2_81 q2_83 q0_6 q1_2 (by decide +kernel) rfl (by decide) (by decide) rfl (Nat.le_of_ble_eq_true rfl) dX6_readInto_15 ?_
  rintro _ τ260 ⟨x263, rfl, i261, f262, b264, h266⟩
  have g265 : Fr MS_X6_readIntoT AS_X6_readIntoT σ τ260 := Fr.call (g249) f262 (by decide)
  have v267 : TpC τ260 T N := v251.fr f262 (by decide) (by decide) (by simp) (by decide)
  have u268 : IV (gV τ260 12 0 4) 0 400 := i261.1 12 0 4
  have u269 : IV (gV τ260 12 0 5) 0 400 := i261.1 12 0 5
  have q270 : (gV τ260 12 0 1).toInt = (gV σ 12 0 1).toInt := congrArg Int32.toInt (show (gV τ260 12 0 1) = (gV σ 12 0 1) from (show gV τ260 12 0 1 = (gV σ 12 0 1) from (f262.1 12 0 (1) (by decide) (by decide)).trans (show gV τ244 12 0 1 = (gV σ 12 0 1) from (f246.1 12 0 (1) (by decide) (by decide)).trans (show gV τ230 12 0 1 = (gV σ 12 0 1) from gV_put eτ230 (show gV τ213 12 0 1 = (gV σ 12 0 1) from (f215.1 12 0 (1) (by decide) (by decide)).trans rfl)))))
  have q271 : (gV τ260 1 j2 2).toInt = (gV τ213 1 j2 2).toInt := congrArg Int32.toInt (show (gV τ260 1 j2 2) = (gV τ213 1 j2 2) from (show gV τ260 1 j2 2 = (gV τ213 1 j2 2) from (f262.1 1 j2 (2) (by decide) (by decide)).trans (show gV τ244 1 j2 2 = (gV τ213 1 j2 2) from (f246.1 1 j2 (2) (by decide) (by decide)).trans (show gV τ230 1 j2 2 = (gV τ213 1 j2 2) from gV_put eτ230 rfl))))
  have q272 : (gV τ260 1 j2 3).toInt = (gV τ213 1 j2 3).toInt := congrArg Int32.toInt (show (gV τ260 1 j2 3) = (gV τ213 1 j2 3) from (show gV τ260 1 j2 3 = (gV τ213 1 j2 3) from (f262.1 1 j2 (3) (by decide) (by decide)).trans (show gV τ244 1 j2 3 = (gV τ213 1 j2 3) from (f246.1 1 j2 (3) (by decide) (by decide)).trans (show gV τ230 1 j2 3 = (gV τ213 1 j2 3) from gV_put eτ230 rfl))))
  rcases h266 with ⟨h266_0, h266_1, h266_2, h266_3⟩ | ⟨h266_0, h266_1, h266_2, h266_3, h266_4⟩
  · skip
    have b273 : IV x263 0 0 := ⟨by omega, by omega⟩
    have q274 := out_law (T := T) (N := N) (by omega)
    show MW p l e _ s m args below meth c _ 4 G 0 0 18 [some (.ref (G.1 12 0)), some (.ref (G.1 1 j2)), none, none] [.int x263] τ260
    refine m_istore_n (L1 := [some (.ref (G.1 12 0)), some (.ref (G.1 1 j2)), some (.int x263), none]) C dX6_readInto_18 rfl (by decide) rfl rfl ?_
    refine m_iconst (v := 0) C dX6_readInto_19 (by decide) ?_
    refine m_istore_n (L1 := [some (.ref (G.1 12 0)), some (.ref (G.1 1 j2)), some (.int x263), some (.int 0)]) C dX6_readInto_20 rfl (by decide) rfl rfl ?_
    refine m_widen (c2 := ((0 : Int32).toInt.toNat)) (s2 := (3 * (0 : Int32).toInt.toNat)) (by omega) (by omega) ?_
    exact J21 ((8 - (0 : Int32).toInt).toNat + 1) τ260 x263 0 (tE T N (tE T N (tE T N (tE T N 0)))) i261 g265 (iv_wk b273 (by decide)) (iv_wk kc_0 (by decide)) v267 (Or.inr (by have q3_ := kt_0; exact ⟨by omega, by omega, by omega, by omega⟩)) (Nat.lt_succ_self _)
  · skip
    have b275 : IV x263 1 1 := ⟨by omega, by omega⟩
    show MW p l e _ s m args below meth c _ 4 G 0 0 18 [some (.ref (G.1 12 0)), some (.ref (G.1 1 j2)), none, none] [.int x263] τ260
    refine m_istore_n (L1 := [some (.ref (G.1 12 0)), some (.ref (G.1 1 j2)), some (.int x263), none]) C dX6_readInto_18 rfl (by decide) rfl rfl ?_
    refine m_iconst (v := 0) C dX6_readInto_19 (by decide) ?_
    refine m_istore_n (L1 := [some (.ref (G.1 12 0)), some (.ref (G.1 1 j2)), some (.int x263), some (.int 0)]) C dX6_readInto_20 rfl (by decide) rfl rfl ?_
    refine m_widen (c2 := ((0 : Int32).toInt.toNat)) (s2 := (3 * (0 : Int32).toInt.toNat)) (by omega) (by omega) ?_
    exact J21 ((8 - (0 : Int32).toInt).toNat + 1) τ260 x263 0 (tE T N (tE T N (tE T N (tE T N 0)))) i261 g265 (iv_wk b275 (by decide)) (iv_wk kc_0 (by decide)) v267 (Or.inl (by have q3_ := kt_0; exact ⟨by omega, by omega, by omega, by omega, by omega, by omega, by omega, by omega, (by rw [show (gV τ260 1 j2 2).toInt.toNat = 0 by omega]; exact PI_.start (by omega))⟩)) (Nat.lt_succ_self _)

abbrev MS_X11_towerT : List (Nat × Nat) := [(0, 6), (1, 0), (1, 1), (1, 2), (1, 3), (1, 9), (1, 10), (1, 11), (12, 1), (12, 2), (12, 3), (12, 4), (12, 5), (12, 6), (12, 7)]
abbrev AS_X11_towerT : List Nat := [2, 3, 4, 5, 6, 99]
set_option maxHeartbeats 4000000 in
set_option maxRecDepth 100000 in
theorem c_X11_towerT (l : Launch) (G : Gt) (σ : Sg) (T : Nat → Int) (N : Nat) (hI : Inv σ) (hT : TpC σ T N) : Mc l G yX11_tower cX11_tower 1 (some .int) 8 181 8 24 [.ref (G.1 0 0)] σ (PI fun r τ => Inv τ ∧ Fr MS_X11_towerT AS_X11_towerT σ τ ∧ IV r (-1000500) 7 ∧ ((r.toInt = -1000100 - outP T N ∧ outF T N ≠ 0 ∧ (gV τ 12 0 2).toInt = outF T N ∧ (gV τ 12 0 1).toInt = 0) ∨ (r.toInt = outN T N ∧ outF T N = 0 ∧ (gV τ 12 0 2).toInt = (gV σ 12 0 2).toInt ∧ (gV τ 12 0 1).toInt = 0))) := by
  refine Mc.of (L0 := [some (.ref (G.1 0 0))]) (by decide) (Nat.le_of_ble_eq_true rfl) rfl ?_
  intro p e s m args below meth c C hr hlk
  have C : Cx p s m args c cX11_tower 1 "LeanTower" := C
  have k0 : (0 : Int32).toInt = 0 := by decide
  have k1 : (1 : Int32).toInt = 1 := by decide
  have u1 : IV (gV σ 1 0 2) 0 7 := hI.1 1 0 2
  have u2 : IV (gV σ 1 1 2) 0 7 := hI.1 1 1 2
  have u3 : IV (gV σ 12 0 1) 0 400 := hI.1 12 0 1
  refine m_aload_n C dX11_tower_0 rfl rfl ?_
  refine g_0_1 C q1_187 dX11_tower_1 ?_
  refine m_aload_n C dX11_tower_4 rfl rfl ?_
  refine g_0_3 C q1_189 dX11_tower_5 ?_
  refine m_callV (n := 1) (ci := 5) (st := []) C (c_X6_readIntoT l G σ T N (j2 := 1) (by decide) hI hT) (by decide) (by decide) rfl rfl rfl q2_55 q2_52 q2_53 q2_54 q1_2 (by decide +kernel) rfl (by decide) (by decide) rfl (Nat.le_of_ble_eq_true rfl) dX11_tower_8 ?_
  rintro _ τ4 ⟨x7, rfl, i5, f6, b8, h10⟩
  have g9 : Fr MS_X11_towerT AS_X11_towerT σ τ4 := Fr.call (Fr.rf) f6 (by decide)
  have u12 : IV (gV τ4 1 0 2) 0 7 := i5.1 1 0 2
  have u13 : IV (gV τ4 1 1 2) 0 7 := i5.1 1 1 2
  have u14 : IV (gV τ4 12 0 1) 0 400 := i5.1 12 0 1
  rcases h10 with ⟨h10_0, h10_1, h10_2, h10_3, h10_4⟩ | ⟨h10_0, h10_1, h10_2, h10_3, h10_4⟩
  · skip
    have b15 : IV x7 0 0 := ⟨by omega, by omega⟩
    show MW p l e _ s m args below meth c _ 1 G 8 24 11 [some (.ref (G.1 0 0))] [.int x7] τ4
    refine m_if_ne (tgt := 25) C dX11_tower_11 (by decide) (fun c16 => ?_) (fun c16 => ?_)
    · exfalso
      have q : _ := c16
      simp only [ti_nle, ti_nlt, ti_le, ti_lt, ti_eq, ti_ne, Classical.not_not, kt_0] at q
      have q1 := b15; have q2 := kc_0; omega
    · have f18 : x7.toInt = 0 := by
        have q : _ := c16
        simp only [ti_nle, ti_nlt, ti_le, ti_lt, ti_eq, ti_ne, Classical.not_not, kt_0] at q
        omega
      refine m_ldc (v := (-1000100)) C dX11_tower_14 q3_5 ?_
      refine m_aload_n C dX11_tower_16 rfl rfl ?_
      refine g_0_1 C q1_187 dX11_tower_17 ?_
      refine g_12_3 C q1_42 dX11_tower_20 ?_
      refine m_eqs (w := (gV τ4 12 0 3)) rfl ?_
      have b19 : IV (gV τ4 12 0 3) 0 400 := ⟨by have q1 := (iv_any (gV τ4 12 0 3)); omega, by have q1 := (iv_any (gV τ4 12 0 3)); omega⟩
      refine m_isub C dX11_tower_23 ?_
      refine m_topi (fun x20 ex20 => ?_)
      have tx20 : x20.toInt = -1000100 - (gV τ4 12 0 3).toInt := by rw [ex20, ti_subv kc_m1000100 b19 (by decide), kt_m1000100]
      have b21 : IV x20 (-1000500) (-1000100) := by rw [ex20]; exact iv_sub kc_m1000100 b19 (by decide)
      exact m_iret C hr hlk (by decide) (by decide) dX11_tower_24 ⟨_, rfl, i5, g9, (iv_wk b21 (by decide)), (Or.inl ⟨by omega, by omega, by omega, by omega⟩)⟩
  · skip
    have b22 : IV x7 1 1 := ⟨by omega, by omega⟩
    show MW p l e _ s m args below meth c _ 1 G 8 24 11 [some (.ref (G.1 0 0))] [.int x7] τ4
    refine m_if_ne (tgt := 25) C dX11_tower_11 (by decide) (fun c23 => ?_) (fun c23 => ?_)
    · have f24 : x7.toInt ≠ 0 := by
        have q : _ := c23
        simp only [ti_nle, ti_nlt, ti_le, ti_lt, ti_eq, ti_ne, Classical.not_not, kt_0] at q
        omega
      refine m_aload_n C dX11_tower_25 rfl rfl ?_
      refine g_0_2 C q1_188 dX11_tower_26 ?_
      refine m_aload_n C dX11_tower_29 rfl rfl ?_
      refine g_0_3 C q1_189 dX11_tower_30 ?_
      refine m_callV (n := 1) (ci := 7) (st := []) C (c_X8_takeFromE l G τ4 (j := 0) (by decide) (j2 := 1) (by decide) i5 ) (by decide) (by decide) rfl rfl rfl q3_9 q3_6 q3_7 q3_8 q1_3 (by decide +kernel) rfl (by decide) (by decide) rfl (Nat.le_of_ble_eq_true rfl) dX11_tower_33 ?_
      rintro _ τ25 ⟨rfl, i26, f27, h31⟩
      have g30 : Fr MS_X11_towerT AS_X11_towerT σ τ25 := Fr.call (g9) f27 (by decide)
      have u32 : IV (gV τ25 1 0 2) 0 7 := i26.1 1 0 2
      have u33 : IV (gV τ25 1 1 2) 0 7 := i26.1 1 1 2
      have q34 : (gV τ25 12 0 1).toInt = (gV τ4 12 0 1).toInt := congrArg Int32.toInt (show (gV τ25 12 0 1) = (gV τ4 12 0 1) from (show gV τ25 12 0 1 = (gV τ4 12 0 1) from (f27.1 12 0 (1) (by decide) (by decide)).trans rfl))
      have q35 : (gV τ25 12 0 2).toInt = (gV τ4 12 0 2).toInt := congrArg Int32.toInt (show (gV τ25 12 0 2) = (gV τ4 12 0 2) from (show gV τ25 12 0 2 = (gV τ4 12 0 2) from (f27.1 12 0 (2) (by decide) (by decide)).trans rfl))
      have q36 : (gV τ25 12 0 3).toInt = (gV τ4 12 0 3).toInt := congrArg Int32.toInt (show (gV τ25 12 0 3) = (gV τ4 12 0 3) from (show gV τ25 12 0 3 = (gV τ4 12 0 3) from (f27.1 12 0 (3) (by decide) (by decide)).trans rfl))
      show MW p l e _ s m args below meth c _ 1 G 8 24 36 [some (.ref (G.1 0 0))] [] τ25
      refine m_aload_n C dX11_tower_36 rfl rfl ?_
      refine m_iconst (v := 0) C dX11_tower_37 (by decide) ?_
      refine p_0_6 C q1_192 dX11_tower_38 ?_
      refine m_tops (fun τ37 eτ37 => ?_)
      have i38 : Inv τ37 := eτ37 ▸ Inv.put i26 (by decide) (iv_wk kc_0 (by decide))
      have f39 : Fr MS_X11_towerT AS_X11_towerT σ τ37 := eτ37 ▸ Fr.put (g30) (Or.inl (by decide))
      refine m_aload_n C dX11_tower_41 rfl rfl ?_
      refine g_0_2 C q1_188 dX11_tower_42 ?_
      refine g_1_2 C (by decide) q1_82 dX11_tower_45 ?_
      refine m_eqs (w := (gV τ25 1 0 2)) (show gV τ37 1 0 2 = (gV τ25 1 0 2) from gV_put eτ37 rfl) ?_
      have q40 : (gV τ37 12 0 1).toInt = (gV τ4 12 0 1).toInt := congrArg Int32.toInt (show (gV τ37 12 0 1) = (gV τ4 12 0 1) from (show gV τ37 12 0 1 = (gV τ4 12 0 1) from gV_put eτ37 (show gV τ25 12 0 1 = (gV τ4 12 0 1) from (f27.1 12 0 (1) (by decide) (by decide)).trans rfl)))
      have q41 : (gV τ37 12 0 2).toInt = (gV τ4 12 0 2).toInt := congrArg Int32.toInt (show (gV τ37 12 0 2) = (gV τ4 12 0 2) from (show gV τ37 12 0 2 = (gV τ4 12 0 2) from gV_put eτ37 (show gV τ25 12 0 2 = (gV τ4 12 0 2) from (f27.1 12 0 (2) (by decide) (by decide)).trans rfl)))
      have q42 : (gV τ37 12 0 3).toInt = (gV τ4 12 0 3).toInt := congrArg Int32.toInt (show (gV τ37 12 0 3) = (gV τ4 12 0 3) from (show gV τ37 12 0 3 = (gV τ4 12 0 3) from gV_put eτ37 (show gV τ25 12 0 3 = (gV τ4 12 0 3) from (f27.1 12 0 (3) (by decide) (by decide)).trans rfl)))
      have q43 : (gV τ37 1 0 2).toInt = (gV τ25 1 0 2).toInt := congrArg Int32.toInt (show (gV τ37 1 0 2) = (gV τ25 1 0 2) from (show gV τ37 1 0 2 = (gV τ25 1 0 2) from gV_put eτ37 rfl))
      have q44 : (gV τ37 1 1 2).toInt = (gV τ25 1 1 2).toInt := congrArg Int32.toInt (show (gV τ37 1 1 2) = (gV τ25 1 1 2) from (show gV τ37 1 1 2 = (gV τ25 1 1 2) from gV_put eτ37 rfl))
      exact m_iret C hr hlk (by decide) (by decide) dX11_tower_48 ⟨_, rfl, i38, f39, (iv_wk u32 (by decide)), (Or.inr (⟨by omega, by omega, by omega, by omega⟩))⟩
    · exfalso
      have q : _ := c23
      simp only [ti_nle, ti_nlt, ti_le, ti_lt, ti_eq, ti_ne, Classical.not_not, kt_0] at q
      have q1 := b22; have q2 := kc_0; omega
