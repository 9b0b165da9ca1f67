abbrev MS_X6_readPersonE : List (Nat × Nat) := [(1, 2), (12, 2), (12, 3), (12, 4), (12, 5), (12, 6), (12, 7)]
abbrev AS_X6_readPersonE : List Nat := [2, 3, 6, 99]
set_option maxHeartbeats 4000000 in
set_option maxRecDepth 100000 in
theorem c_X6_readPersonE (l : Launch) (G : Gt) (σ : Sg) (T : Nat → Int) (N : Nat) (i : Nat) (st : Int) (cc : Int) {j2 : Nat} (hj2 : j2 < 28) (hI : Inv σ) (hT : TpC σ T N) (hcur : ((gV σ 12 0 4).toInt = (tS T i : Int) ∧ (gV σ 12 0 5).toInt = (tE T N i : Int) ∧ (gV σ 12 0 6).toInt = tK T N i ∧ (tK T N i = 2 → (gV σ 12 0 7).toInt = tV T i))) (hst : ((gV σ 1 j2 0).toInt = st ∧ 4 ≤ st ∧ st ≤ 32 ∧ (gV σ 1 j2 2).toInt = cc)) : Mc l G yX6_readPerson cX6_readPerson 7 (some .boolean) 6 132 1 3 [.ref (G.1 12 0), .ref (G.1 1 j2)] σ (PI fun r τ => Inv τ ∧ Fr MS_X6_readPersonE AS_X6_readPersonE σ τ ∧ IV r 0 1 ∧ ((r.toInt = 0 ∧ perF T N st cc i ≠ 0 ∧ (gV τ 12 0 2).toInt = perF T N st cc i ∧ ((gV τ 12 0 3).toInt = perP T N st cc i ∧ 0 ≤ (gV τ 12 0 3).toInt ∧ (gV τ 12 0 3).toInt ≤ 400)) ∨ (r.toInt = 1 ∧ perF T N st cc i = 0 ∧ (gV τ 12 0 2).toInt = (gV σ 12 0 2).toInt ∧ (gV τ 1 j2 2).toInt = cc + 1 ∧ ((gV τ 12 0 4).toInt = (tS T (tE T N (tE T N (tE T N (tE T N (tE T N (tE T N i)))))) : Int) ∧ (gV τ 12 0 5).toInt = (tE T N (tE T N (tE T N (tE T N (tE T N (tE T N (tE T N i)))))) : Int) ∧ (gV τ 12 0 6).toInt = tK T N (tE T N (tE T N (tE T N (tE T N (tE T N (tE T N i)))))) ∧ (tK T N (tE T N (tE T N (tE T N (tE T N (tE T N (tE T N i)))))) = 2 → (gV τ 12 0 7).toInt = tV T (tE T N (tE T N (tE T N (tE T N (tE T N (tE T N i))))))))))) := by
  refine Mc.of (L0 := [some (.ref (G.1 12 0)), some (.ref (G.1 1 j2)), none, none, none, none, none]) (by decide) (Nat.le_of_ble_eq_true rfl) rfl ?_
  intro p e s m args below meth c C hr hlk
  have C : Cx p s m args c cX6_readPerson 7 "LeanTower$Reader" := C
  have k0 : (0 : Int32).toInt = 0 := by decide
  have k1 : (1 : Int32).toInt = 1 := by decide
  have u1 : IV (gV σ 1 j2 2) 0 7 := hI.1 1 j2 2
  have u2 : IV (gV σ 12 0 4) 0 400 := hI.1 12 0 4
  have u3 : IV (gV σ 12 0 5) 0 400 := hI.1 12 0 5
  refine m_aload_n C dX6_readPerson_0 rfl rfl ?_
  refine g_1_2 C hj2 q1_81 dX6_readPerson_1 ?_
  refine m_eqs (w := (gV σ 1 j2 2)) rfl ?_
  refine m_bipush (v := 7) C dX6_readPerson_4 (by decide) ?_
  refine m_icmp_lt (tgt := 15) C dX6_readPerson_6 (by decide) (fun c4 => ?_) (fun c4 => ?_)
  · have f5 : (gV σ 1 j2 2).toInt < 7 := by
      have q : _ := c4
      simp only [ti_nle, ti_nlt, ti_le, ti_lt, ti_eq, ti_ne, Classical.not_not, kt_7] at q
      omega
    have b6 : IV (gV σ 1 j2 2) 0 6 := ⟨by have q1 := u1; have q2 := kc_7; omega, by have q1 := u1; have q2 := kc_7; omega⟩
    refine m_aload_n C dX6_readPerson_15 rfl rfl ?_
    refine m_callV (n := 0) (ci := 5) (st := []) C (c_X6_nextE l G σ T N (tE T N i)  hI hT (by omega)) (by decide) (by decide) rfl rfl rfl q2_63 q2_60 q2_62 q0_3 q1_2 (by decide +kernel) rfl (by decide) (by decide) rfl (Nat.le_of_ble_eq_true rfl) dX6_readPerson_16 ?_
    rintro _ τ7 ⟨rfl, i8, f9, h13⟩
    have g12 : Fr MS_X6_readPersonE AS_X6_readPersonE σ τ7 := Fr.call (Fr.rf) f9 (by decide)
    clear hcur
    have v14 : TpC τ7 T N := hT.fr f9 (by decide) (by decide) (by simp) (by decide)
    have u15 : IV (gV τ7 12 0 4) 0 400 := i8.1 12 0 4
    have u16 : IV (gV τ7 12 0 5) 0 400 := i8.1 12 0 5
    have q17 : (gV τ7 1 j2 0).toInt = (gV σ 1 j2 0).toInt := congrArg Int32.toInt (show (gV τ7 1 j2 0) = (gV σ 1 j2 0) from (show gV τ7 1 j2 0 = (gV σ 1 j2 0) from (f9.1 1 j2 (0) (by decide) (by decide)).trans rfl))
    have q18 : (gV τ7 1 j2 2).toInt = (gV σ 1 j2 2).toInt := congrArg Int32.toInt (show (gV τ7 1 j2 2) = (gV σ 1 j2 2) from (show gV τ7 1 j2 2 = (gV σ 1 j2 2) from (f9.1 1 j2 (2) (by decide) (by decide)).trans rfl))
    have q19 : (gV τ7 12 0 2).toInt = (gV σ 12 0 2).toInt := congrArg Int32.toInt (show (gV τ7 12 0 2) = (gV σ 12 0 2) from (show gV τ7 12 0 2 = (gV σ 12 0 2) from (f9.1 12 0 (2) (by decide) (by decide)).trans rfl))
    have q20 : (gV τ7 12 0 3).toInt = (gV σ 12 0 3).toInt := congrArg Int32.toInt (show (gV τ7 12 0 3) = (gV σ 12 0 3) from (show gV τ7 12 0 3 = (gV σ 12 0 3) from (f9.1 12 0 (3) (by decide) (by decide)).trans rfl))
    show MW p l e _ s m args below meth c _ 7 G 0 0 19 [some (.ref (G.1 12 0)), some (.ref (G.1 1 j2)), none, none, none, none, none] [] τ7
    refine m_aload_n C dX6_readPerson_19 rfl rfl ?_
    refine m_callV (n := 0) (ci := 5) (st := []) C (c_X6_kindAtHandE l G τ7 T N (tE T N i)  i8 v14 (by omega)) (by decide) (by decide) rfl rfl rfl q2_158 q2_155 q2_157 q0_12 q1_2 (by decide +kernel) rfl (by decide) (by decide) rfl (Nat.le_of_ble_eq_true rfl) dX6_readPerson_20 ?_
    rintro _ τ21 ⟨x24, rfl, i22, f23, b25, h27⟩
    have g26 : Fr MS_X6_readPersonE AS_X6_readPersonE σ τ21 := Fr.call (g12) f23 (by decide)
    have v28 : TpC τ21 T N := v14.fr f23 (by decide) (by decide) (by simp) (by decide)
    have q29 : (gV τ21 1 j2 0).toInt = (gV σ 1 j2 0).toInt := congrArg Int32.toInt (show (gV τ21 1 j2 0) = (gV σ 1 j2 0) from (show gV τ21 1 j2 0 = (gV σ 1 j2 0) from (f23.1 1 j2 (0) (by decide) (by decide)).trans (show gV τ7 1 j2 0 = (gV σ 1 j2 0) from (f9.1 1 j2 (0) (by decide) (by decide)).trans rfl)))
    have q30 : (gV τ21 1 j2 2).toInt = (gV σ 1 j2 2).toInt := congrArg Int32.toInt (show (gV τ21 1 j2 2) = (gV σ 1 j2 2) from (show gV τ21 1 j2 2 = (gV σ 1 j2 2) from (f23.1 1 j2 (2) (by decide) (by decide)).trans (show gV τ7 1 j2 2 = (gV σ 1 j2 2) from (f9.1 1 j2 (2) (by decide) (by decide)).trans rfl)))
    have q31 : (gV τ21 12 0 2).toInt = (gV σ 12 0 2).toInt := congrArg Int32.toInt (show (gV τ21 12 0 2) = (gV σ 12 0 2) from (show gV τ21 12 0 2 = (gV σ 12 0 2) from (f23.1 12 0 (2) (by decide) (by decide)).trans (show gV τ7 12 0 2 = (gV σ 12 0 2) from (f9.1 12 0 (2) (by decide) (by decide)).trans rfl)))
    have q32 : (gV τ21 12 0 3).toInt = (gV σ 12 0 3).toInt := congrArg Int32.toInt (show (gV τ21 12 0 3) = (gV σ 12 0 3) from (show gV τ21 12 0 3 = (gV σ 12 0 3) from (f23.1 12 0 (3) (by decide) (by decide)).trans (show gV τ7 12 0 3 = (gV σ 12 0 3) from (f9.1 12 0 (3) (by decide) (by decide)).trans rfl)))
    have q33 : (gV τ21 12 0 4).toInt = (gV τ7 12 0 4).toInt := congrArg Int32.toInt (show (gV τ21 12 0 4) = (gV τ7 12 0 4) from (show gV τ21 12 0 4 = (gV τ7 12 0 4) from (f23.1 12 0 (4) (by decide) (by decide)).trans rfl))
    have q34 : (gV τ21 12 0 5).toInt = (gV τ7 12 0 5).toInt := congrArg Int32.toInt (show (gV τ21 12 0 5) = (gV τ7 12 0 5) from (show gV τ21 12 0 5 = (gV τ7 12 0 5) from (f23.1 12 0 (5) (by decide) (by decide)).trans rfl))
    have q35 : (gV τ21 12 0 6).toInt = (gV τ7 12 0 6).toInt := congrArg Int32.toInt (show (gV τ21 12 0 6) = (gV τ7 12 0 6) from (show gV τ21 12 0 6 = (gV τ7 12 0 6) from (f23.1 12 0 (6) (by decide) (by decide)).trans rfl))
    have q36 : (gV τ21 12 0 7).toInt = (gV τ7 12 0 7).toInt := congrArg Int32.toInt (show (gV τ21 12 0 7) = (gV τ7 12 0 7) from (show gV τ21 12 0 7 = (gV τ7 12 0 7) from (f23.1 12 0 (7) (by decide) (by decide)).trans rfl))
    show MW p l e _ s m args below meth c _ 7 G 0 0 23 [some (.ref (G.1 12 0)), some (.ref (G.1 1 j2)), none, none, none, none, none] [.int x24] τ21
    refine m_istore_n (L1 := [some (.ref (G.1 12 0)), some (.ref (G.1 1 j2)), some (.int x24), none, none, none, none]) C dX6_readPerson_23 rfl (by decide) rfl rfl ?_
    refine m_iload_n C dX6_readPerson_24 rfl rfl ?_
    refine m_if_ne (tgt := 34) C dX6_readPerson_25 (by decide) (fun c37 => ?_) (fun c37 => ?_)
    · have f38 : x24.toInt ≠ 0 := by
        have q : _ := c37
        simp only [ti_nle, ti_nlt, ti_le, ti_lt, ti_eq, ti_ne, Classical.not_not, kt_0] at q
        omega
      have b39 : IV x24 1 5 := ⟨by have q1 := b25; have q2 := kc_0; omega, by have q1 := b25; have q2 := kc_0; omega⟩
      refine m_aload_n C dX6_readPerson_34 rfl rfl ?_
      refine m_callV (n := 0) (ci := 5) (st := []) C (c_X6_nextE l G τ21 T N (tE T N (tE T N i))  i22 v28 (by omega)) (by decide) (by decide) rfl rfl rfl q2_63 q2_60 q2_62 q0_3 q1_2 (by decide +kernel) rfl (by decide) (by decide) rfl (Nat.le_of_ble_eq_true rfl) dX6_readPerson_35 ?_
      rintro _ τ40 ⟨rfl, i41, f42, h46⟩
      have g45 : Fr MS_X6_readPersonE AS_X6_readPersonE σ τ40 := Fr.call (g26) f42 (by decide)
      clear h13
      have v47 : TpC τ40 T N := v28.fr f42 (by decide) (by decide) (by simp) (by decide)
      have u48 : IV (gV τ40 12 0 4) 0 400 := i41.1 12 0 4
      have u49 : IV (gV τ40 12 0 5) 0 400 := i41.1 12 0 5
      have q50 : (gV τ40 1 j2 0).toInt = (gV σ 1 j2 0).toInt := congrArg Int32.toInt (show (gV τ40 1 j2 0) = (gV σ 1 j2 0) from (show gV τ40 1 j2 0 = (gV σ 1 j2 0) from (f42.1 1 j2 (0) (by decide) (by decide)).trans (show gV τ21 1 j2 0 = (gV σ 1 j2 0) from (f23.1 1 j2 (0) (by decide) (by decide)).trans (show gV τ7 1 j2 0 = (gV σ 1 j2 0) from (f9.1 1 j2 (0) (by decide) (by decide)).trans rfl))))
      have q51 : (gV τ40 1 j2 2).toInt = (gV σ 1 j2 2).toInt := congrArg Int32.toInt (show (gV τ40 1 j2 2) = (gV σ 1 j2 2) from (show gV τ40 1 j2 2 = (gV σ 1 j2 2) from (f42.1 1 j2 (2) (by decide) (by decide)).trans (show gV τ21 1 j2 2 = (gV σ 1 j2 2) from (f23.1 1 j2 (2) (by decide) (by decide)).trans (show gV τ7 1 j2 2 = (gV σ 1 j2 2) from (f9.1 1 j2 (2) (by decide) (by decide)).trans rfl))))
      have q52 : (gV τ40 12 0 2).toInt = (gV σ 12 0 2).toInt := congrArg Int32.toInt (show (gV τ40 12 0 2) = (gV σ 12 0 2) from (show gV τ40 12 0 2 = (gV σ 12 0 2) from (f42.1 12 0 (2) (by decide) (by decide)).trans (show gV τ21 12 0 2 = (gV σ 12 0 2) from (f23.1 12 0 (2) (by decide) (by decide)).trans (show gV τ7 12 0 2 = (gV σ 12 0 2) from (f9.1 12 0 (2) (by decide) (by decide)).trans rfl))))
      have q53 : (gV τ40 12 0 3).toInt = (gV σ 12 0 3).toInt := congrArg Int32.toInt (show (gV τ40 12 0 3) = (gV σ 12 0 3) from (show gV τ40 12 0 3 = (gV σ 12 0 3) from (f42.1 12 0 (3) (by decide) (by decide)).trans (show gV τ21 12 0 3 = (gV σ 12 0 3) from (f23.1 12 0 (3) (by decide) (by decide)).trans (show gV τ7 12 0 3 = (gV σ 12 0 3) from (f9.1 12 0 (3) (by decide) (by decide)).trans rfl))))
      show MW p l e _ s m args below meth c _ 7 G 0 0 38 [some (.ref (G.1 12 0)), some (.ref (G.1 1 j2)), some (.int x24), none, none, none, none] [] τ40
      refine m_aload_n C dX6_readPerson_38 rfl rfl ?_
      refine m_iconst (v := 1) C dX6_readPerson_39 (by decide) ?_
      refine m_bipush (v := 20) C dX6_readPerson_40 (by decide) ?_
      have q54 := kt_1
      have q55 := kt_20
      refine m_callV (n := 2) (ci := 5) (st := []) C (c_X6_numberE l G τ40 T N (tE T N (tE T N i)) (1) (20) i41 v47 (by omega)) (by decide) (by decide) rfl rfl rfl q2_145 q2_142 q2_144 q0_9 q1_2 (by decide +kernel) rfl (by decide) (by decide) rfl (Nat.le_of_ble_eq_true rfl) dX6_readPerson_42 ?_
      rintro _ τ56 ⟨x59, rfl, i57, f58, b60, h62⟩
      have g61 : Fr MS_X6_readPersonE AS_X6_readPersonE σ τ56 := Fr.call (g45) f58 (by decide)
      clear h46
      have v63 : TpC τ56 T N := v47.fr f58 (by decide) (by decide) (by simp) (by decide)
      have u64 : IV (gV τ56 12 0 4) 0 400 := i57.1 12 0 4
      have u65 : IV (gV τ56 12 0 5) 0 400 := i57.1 12 0 5
      have q66 : (gV τ56 1 j2 0).toInt = (gV σ 1 j2 0).toInt := congrArg Int32.toInt (show (gV τ56 1 j2 0) = (gV σ 1 j2 0) from (show gV τ56 1 j2 0 = (gV σ 1 j2 0) from (f58.1 1 j2 (0) (by decide) (by decide)).trans (show gV τ40 1 j2 0 = (gV σ 1 j2 0) from (f42.1 1 j2 (0) (by decide) (by decide)).trans (show gV τ21 1 j2 0 = (gV σ 1 j2 0) from (f23.1 1 j2 (0) (by decide) (by decide)).trans (show gV τ7 1 j2 0 = (gV σ 1 j2 0) from (f9.1 1 j2 (0) (by decide) (by decide)).trans rfl)))))
      have q67 : (gV τ56 1 j2 2).toInt = (gV σ 1 j2 2).toInt := congrArg Int32.toInt (show (gV τ56 1 j2 2) = (gV σ 1 j2 2) from (show gV τ56 1 j2 2 = (gV σ 1 j2 2) from (f58.1 1 j2 (2) (by decide) (by decide)).trans (show gV τ40 1 j2 2 = (gV σ 1 j2 2) from (f42.1 1 j2 (2) (by decide) (by decide)).trans (show gV τ21 1 j2 2 = (gV σ 1 j2 2) from (f23.1 1 j2 (2) (by decide) (by decide)).trans (show gV τ7 1 j2 2 = (gV σ 1 j2 2) from (f9.1 1 j2 (2) (by decide) (by decide)).trans rfl)))))
      rcases h62 with ⟨h62_0, h62_1, h62_2, h62_3⟩ | ⟨h62_0, h62_1, h62_2, h62_3, h62_4⟩ | ⟨h62_0, h62_1, h62_2, h62_3, h62_4, h62_5⟩
      · skip
        have b68 : IV x59 (-1) (-1) := ⟨by omega, by omega⟩
        show MW p l e _ s m args below meth c _ 7 G 0 0 45 [some (.ref (G.1 12 0)), some (.ref (G.1 1 j2)), some (.int x24), none, none, none, none] [.int x59] τ56
        refine m_istore_n (L1 := [some (.ref (G.1 12 0)), some (.ref (G.1 1 j2)), some (.int x24), some (.int x59), none, none, none]) C dX6_readPerson_45 rfl (by decide) rfl rfl ?_
        refine m_iload_n C dX6_readPerson_46 rfl rfl ?_
        refine m_iconst (v := (-1)) C dX6_readPerson_47 (by decide) ?_
        refine m_icmp_ne (tgt := 53) C dX6_readPerson_48 (by decide) (fun c69 => ?_) (fun c69 => ?_)
        · exfalso
          have q : _ := c69
          simp only [ti_nle, ti_nlt, ti_le, ti_lt, ti_eq, ti_ne, Classical.not_not, kt_m1] at q
          have q1 := b68; have q2 := kc_m1; omega
        · have f71 : x59.toInt = -1 := by
            have q : _ := c69
            simp only [ti_nle, ti_nlt, ti_le, ti_lt, ti_eq, ti_ne, Classical.not_not, kt_m1] at q
            omega
          refine m_iconst (v := 0) C dX6_readPerson_51 (by decide) ?_
          exact m_zret C hr rfl hlk (by decide) (by decide) dX6_readPerson_52 ⟨_, rfl, i57, g61, (iv_wk kc_0 (by decide)), (by have qd := per_2 T N st cc i (by omega) (by omega) (by omega); have qk := kt_0; refine Or.inl ⟨by omega, by omega, by omega, by omega⟩)⟩
      · skip
        have b72 : IV x59 (-1) (-1) := ⟨by omega, by omega⟩
        show MW p l e _ s m args below meth c _ 7 G 0 0 45 [some (.ref (G.1 12 0)), some (.ref (G.1 1 j2)), some (.int x24), none, none, none, none] [.int x59] τ56
        refine m_istore_n (L1 := [some (.ref (G.1 12 0)), some (.ref (G.1 1 j2)), some (.int x24), some (.int x59), none, none, none]) C dX6_readPerson_45 rfl (by decide) rfl rfl ?_
        refine m_iload_n C dX6_readPerson_46 rfl rfl ?_
        refine m_iconst (v := (-1)) C dX6_readPerson_47 (by decide) ?_
        refine m_icmp_ne (tgt := 53) C dX6_readPerson_48 (by decide) (fun c73 => ?_) (fun c73 => ?_)
        · exfalso
          have q : _ := c73
          simp only [ti_nle, ti_nlt, ti_le, ti_lt, ti_eq, ti_ne, Classical.not_not, kt_m1] at q
          have q1 := b72; have q2 := kc_m1; omega
        · have f75 : x59.toInt = -1 := by
            have q : _ := c73
            simp only [ti_nle, ti_nlt, ti_le, ti_lt, ti_eq, ti_ne, Classical.not_not, kt_m1] at q
            omega
          refine m_iconst (v := 0) C dX6_readPerson_51 (by decide) ?_
          exact m_zret C hr rfl hlk (by decide) (by decide) dX6_readPerson_52 ⟨_, rfl, i57, g61, (iv_wk kc_0 (by decide)), (by have qd := per_3 T N st cc i (by omega) (by omega) (by omega) (by omega); have qk := kt_0; refine Or.inl ⟨by omega, by omega, by omega, by omega⟩)⟩
      · skip
        show MW p l e _ s m args below meth c _ 7 G 0 0 45 [some (.ref (G.1 12 0)), some (.ref (G.1 1 j2)), some (.int x24), none, none, none, none] [.int x59] τ56
        refine m_istore_n (L1 := [some (.ref (G.1 12 0)), some (.ref (G.1 1 j2)), some (.int x24), some (.int x59), none, none, none]) C dX6_readPerson_45 rfl (by decide) rfl rfl ?_
        refine m_iload_n C dX6_readPerson_46 rfl rfl ?_
        refine m_iconst (v := (-1)) C dX6_readPerson_47 (by decide) ?_
        refine m_icmp_ne (tgt := 53) C dX6_readPerson_48 (by decide) (fun c76 => ?_) (fun c76 => ?_)
        · have f77 : x59.toInt ≠ -1 := by
            have q : _ := c76
            simp only [ti_nle, ti_nlt, ti_le, ti_lt, ti_eq, ti_ne, Classical.not_not, kt_m1] at q
            omega
          refine m_aload_n C dX6_readPerson_53 rfl rfl ?_
          refine m_iconst (v := 1) C dX6_readPerson_54 (by decide) ?_
          refine m_iconst (v := 4) C dX6_readPerson_55 (by decide) ?_
          have q78 := kt_1
          have q79 := kt_4
          refine m_callV (n := 2) (ci := 5) (st := []) C (c_X6_numberE l G τ56 T N (tE T N (tE T N (tE T N i))) (1) (4) i57 v63 (by omega)) (by decide) (by decide) rfl rfl rfl q2_145 q2_142 q2_144 q0_9 q1_2 (by decide +kernel) rfl (by decide) (by decide) rfl (Nat.le_of_ble_eq_true rfl) dX6_readPerson_56 ?_
          rintro _ τ80 ⟨x83, rfl, i81, f82, b84, h86⟩
          have g85 : Fr MS_X6_readPersonE AS_X6_readPersonE σ τ80 := Fr.call (g61) f82 (by decide)
          clear h62_5
          have v87 : TpC τ80 T N := v63.fr f82 (by decide) (by decide) (by simp) (by decide)
          have u88 : IV (gV τ80 12 0 4) 0 400 := i81.1 12 0 4
          have u89 : IV (gV τ80 12 0 5) 0 400 := i81.1 12 0 5
          have q90 : (gV τ80 1 j2 0).toInt = (gV σ 1 j2 0).toInt := congrArg Int32.toInt (show (gV τ80 1 j2 0) = (gV σ 1 j2 0) from (show gV τ80 1 j2 0 = (gV σ 1 j2 0) from (f82.1 1 j2 (0) (by decide) (by decide)).trans (show gV τ56 1 j2 0 = (gV σ 1 j2 0) from (f58.1 1 j2 (0) (by decide) (by decide)).trans (show gV τ40 1 j2 0 = (gV σ 1 j2 0) from (f42.1 1 j2 (0) (by decide) (by decide)).trans (show gV τ21 1 j2 0 = (gV σ 1 j2 0) from (f23.1 1 j2 (0) (by decide) (by decide)).trans (show gV τ7 1 j2 0 = (gV σ 1 j2 0) from (f9.1 1 j2 (0) (by decide) (by decide)).trans rfl))))))
          have q91 : (gV τ80 1 j2 2).toInt = (gV σ 1 j2 2).toInt := congrArg Int32.toInt (show (gV τ80 1 j2 2) = (gV σ 1 j2 2) from (show gV τ80 1 j2 2 = (gV σ 1 j2 2) from (f82.1 1 j2 (2) (by decide) (by decide)).trans (show gV τ56 1 j2 2 = (gV σ 1 j2 2) from (f58.1 1 j2 (2) (by decide) (by decide)).trans (show gV τ40 1 j2 2 = (gV σ 1 j2 2) from (f42.1 1 j2 (2) (by decide) (by decide)).trans (show gV τ21 1 j2 2 = (gV σ 1 j2 2) from (f23.1 1 j2 (2) (by decide) (by decide)).trans (show gV τ7 1 j2 2 = (gV σ 1 j2 2) from (f9.1 1 j2 (2) (by decide) (by decide)).trans rfl))))))
          rcases h86 with ⟨h86_0, h86_1, h86_2, h86_3⟩ | ⟨h86_0, h86_1, h86_2, h86_3, h86_4⟩ | ⟨h86_0, h86_1, h86_2, h86_3, h86_4, h86_5⟩
          · skip
            have b92 : IV x83 (-1) (-1) := ⟨by omega, by omega⟩
            show MW p l e _ s m args below meth c _ 7 G 0 0 59 [some (.ref (G.1 12 0)), some (.ref (G.1 1 j2)), some (.int x24), some (.int x59), none, none, none] [.int x83] τ80
            refine m_istore (L1 := [some (.ref (G.1 12 0)), some (.ref (G.1 1 j2)), some (.int x24), some (.int x59), some (.int x83), none, none]) C dX6_readPerson_59 (by decide) rfl rfl ?_
            refine m_iload C dX6_readPerson_61 rfl ?_
            refine m_iconst (v := (-1)) C dX6_readPerson_63 (by decide) ?_
            refine m_icmp_ne (tgt := 69) C dX6_readPerson_64 (by decide) (fun c93 => ?_) (fun c93 => ?_)
            · exfalso
              have q : _ := c93
              simp only [ti_nle, ti_nlt, ti_le, ti_lt, ti_eq, ti_ne, Classical.not_not, kt_m1] at q
              have q1 := b92; have q2 := kc_m1; omega
            · have f95 : x83.toInt = -1 := by
                have q : _ := c93
                simp only [ti_nle, ti_nlt, ti_le, ti_lt, ti_eq, ti_ne, Classical.not_not, kt_m1] at q
                omega
              refine m_iconst (v := 0) C dX6_readPerson_67 (by decide) ?_
              exact m_zret C hr rfl hlk (by decide) (by decide) dX6_readPerson_68 ⟨_, rfl, i81, g85, (iv_wk kc_0 (by decide)), (by have qd := per_4 T N st cc i (by omega) (by omega) (by omega) (by omega) (by omega); have qk := kt_0; refine Or.inl ⟨by omega, by omega, by omega, by omega⟩)⟩
          · skip
            have b96 : IV x83 (-1) (-1) := ⟨by omega, by omega⟩
            show MW p l e _ s m args below meth c _ 7 G 0 0 59 [some (.ref (G.1 12 0)), some (.ref (G.1 1 j2)), some (.int x24), some (.int x59), none, none, none] [.int x83] τ80
            refine m_istore (L1 := [some (.ref (G.1 12 0)), some (.ref (G.1 1 j2)), some (.int x24), some (.int x59), some (.int x83), none, none]) C dX6_readPerson_59 (by decide) rfl rfl ?_
            refine m_iload C dX6_readPerson_61 rfl ?_
            refine m_iconst (v := (-1)) C dX6_readPerson_63 (by decide) ?_
            refine m_icmp_ne (tgt := 69) C dX6_readPerson_64 (by decide) (fun c97 => ?_) (fun c97 => ?_)
            · exfalso
              have q : _ := c97
              simp only [ti_nle, ti_nlt, ti_le, ti_lt, ti_eq, ti_ne, Classical.not_not, kt_m1] at q
              have q1 := b96; have q2 := kc_m1; omega
            · have f99 : x83.toInt = -1 := by
                have q : _ := c97
                simp only [ti_nle, ti_nlt, ti_le, ti_lt, ti_eq, ti_ne, Classical.not_not, kt_m1] at q
                omega
              refine m_iconst (v := 0) C dX6_readPerson_67 (by decide) ?_
              exact m_zret C hr rfl hlk (by decide) (by decide) dX6_readPerson_68 ⟨_, rfl, i81, g85, (iv_wk kc_0 (by decide)), (by have qd := per_5 T N st cc i (by omega) (by omega) (by omega) (by omega) (by omega) (by omega); have qk := kt_0; refine Or.inl ⟨by omega, by omega, by omega, by omega⟩)⟩
          · skip
            show MW p l e _ s m args below meth c _ 7 G 0 0 59 [some (.ref (G.1 12 0)), some (.ref (G.1 1 j2)), some (.int x24), some (.int x59), none, none, none] [.int x83] τ80
            refine m_istore (L1 := [some (.ref (G.1 12 0)), some (.ref (G.1 1 j2)), some (.int x24), some (.int x59), some (.int x83), none, none]) C dX6_readPerson_59 (by decide) rfl rfl ?_
            refine m_iload C dX6_readPerson_61 rfl ?_
            refine m_iconst (v := (-1)) C dX6_readPerson_63 (by decide) ?_
            refine m_icmp_ne (tgt := 69) C dX6_readPerson_64 (by decide) (fun c100 => ?_) (fun c100 => ?_)
            · have f101 : x83.toInt ≠ -1 := by
                have q : _ := c100
                simp only [ti_nle, ti_nlt, ti_le, ti_lt, ti_eq, ti_ne, Classical.not_not, kt_m1] at q
                omega
              refine m_aload_n C dX6_readPerson_69 rfl rfl ?_
              refine g_12_6 C q1_46 dX6_readPerson_70 ?_
              refine m_eqs (w := (gV τ80 12 0 6)) rfl ?_
              refine m_iconst (v := 2) C dX6_readPerson_73 (by decide) ?_
              refine m_icmp_ne (tgt := 90) C dX6_readPerson_74 (by decide) (fun c102 => ?_) (fun c102 => ?_)
              · have f103 : (gV τ80 12 0 6).toInt ≠ 2 := by
                  have q : _ := c102
                  simp only [ti_nle, ti_nlt, ti_le, ti_lt, ti_eq, ti_ne, Classical.not_not, kt_2] at q
                  omega
                refine m_iconst (v := 0) C dX6_readPerson_90 (by decide) ?_
                refine m_istore (L1 := [some (.ref (G.1 12 0)), some (.ref (G.1 1 j2)), some (.int x24), some (.int x59), some (.int x83), some (.int 0), none]) C dX6_readPerson_91 (by decide) rfl rfl ?_
                refine m_aload_n C dX6_readPerson_93 rfl rfl ?_
                refine m_iconst (v := 0) C dX6_readPerson_94 (by decide) ?_
                refine m_iload C dX6_readPerson_95 rfl ?_
                refine m_if_eq (tgt := 105) C dX6_readPerson_97 (by decide) (fun c104 => ?_) (fun c104 => ?_)
                · have f105 : 0 = 0 := by
                    have q : _ := c104
                    simp only [ti_nle, ti_nlt, ti_le, ti_lt, ti_eq, ti_ne, Classical.not_not, kt_0, kt_0] at q
                    omega
                  have q106 : ¬ (tK T N (tE T N (tE T N (tE T N (tE T N i)))) = 2 ∧ tV T (tE T N (tE T N (tE T N (tE T N i)))) = 99) := by omega
                  refine m_aload_n C dX6_readPerson_105 rfl rfl ?_
                  refine g_1_0 C hj2 q1_75 dX6_readPerson_106 ?_
                  refine m_eqs (w := (gV σ 1 j2 0)) (show gV τ80 1 j2 0 = (gV σ 1 j2 0) from (f82.1 1 j2 (0) (by decide) (by decide)).trans (show gV τ56 1 j2 0 = (gV σ 1 j2 0) from (f58.1 1 j2 (0) (by decide) (by decide)).trans (show gV τ40 1 j2 0 = (gV σ 1 j2 0) from (f42.1 1 j2 (0) (by decide) (by decide)).trans (show gV τ21 1 j2 0 = (gV σ 1 j2 0) from (f23.1 1 j2 (0) (by decide) (by decide)).trans (show gV τ7 1 j2 0 = (gV σ 1 j2 0) from (f9.1 1 j2 (0) (by decide) (by decide)).trans rfl))))) ?_
                  have b107 : IV (gV σ 1 j2 0) 4 32 := ⟨by have q1 := (iv_any (gV σ 1 j2 0)); omega, by have q1 := (iv_any (gV σ 1 j2 0)); omega⟩
                  refine m_iconst (v := 1) C dX6_readPerson_109 (by decide) ?_
                  refine m_isub C dX6_readPerson_110 ?_
                  refine m_topi (fun x108 ex108 => ?_)
                  have tx108 : x108.toInt = (gV σ 1 j2 0).toInt - 1 := by rw [ex108, ti_subv b107 kc_1 (by decide), kt_1]
                  have b109 : IV x108 3 31 := by rw [ex108]; exact iv_sub b107 kc_1 (by decide)
                  have q110 := kt_0
                  refine m_callV (n := 2) (ci := 5) (st := []) C (c_X6_numberE l G τ80 T N (tE T N (tE T N (tE T N (tE T N i)))) (0) (x108) i81 v87 (by omega)) (by decide) (by decide) rfl rfl rfl q2_145 q2_142 q2_144 q0_9 q1_2 (by decide +kernel) rfl (by decide) (by decide) rfl (Nat.le_of_ble_eq_true rfl) dX6_readPerson_111 ?_
                  rintro _ τ111 ⟨x114, rfl, i112, f113, b115, h117⟩
                  have g116 : Fr MS_X6_readPersonE AS_X6_readPersonE σ τ111 := Fr.call (g85) f113 (by decide)
                  clear h86_5
                  have v118 : TpC τ111 T N := v87.fr f113 (by decide) (by decide) (by simp) (by decide)
                  have u119 : IV (gV τ111 12 0 4) 0 400 := i112.1 12 0 4
                  have u120 : IV (gV τ111 12 0 5) 0 400 := i112.1 12 0 5
                  have q121 : (gV τ111 1 j2 0).toInt = (gV σ 1 j2 0).toInt := congrArg Int32.toInt (show (gV τ111 1 j2 0) = (gV σ 1 j2 0) from (show gV τ111 1 j2 0 = (gV σ 1 j2 0) from (f113.1 1 j2 (0) (by decide) (by decide)).trans (show gV τ80 1 j2 0 = (gV σ 1 j2 0) from (f82.1 1 j2 (0) (by decide) (by decide)).trans (show gV τ56 1 j2 0 = (gV σ 1 j2 0) from (f58.1 1 j2 (0) (by decide) (by decide)).trans (show gV τ40 1 j2 0 = (gV σ 1 j2 0) from (f42.1 1 j2 (0) (by decide) (by decide)).trans (show gV τ21 1 j2 0 = (gV σ 1 j2 0) from (f23.1 1 j2 (0) (by decide) (by decide)).trans (show gV τ7 1 j2 0 = (gV σ 1 j2 0) from (f9.1 1 j2 (0) (by decide) (by decide)).trans rfl)))))))
                  have q122 : (gV τ111 1 j2 2).toInt = (gV σ 1 j2 2).toInt := congrArg Int32.toInt (show (gV τ111 1 j2 2) = (gV σ 1 j2 2) from (show gV τ111 1 j2 2 = (gV σ 1 j2 2) from (f113.1 1 j2 (2) (by decide) (by decide)).trans (show gV τ80 1 j2 2 = (gV σ 1 j2 2) from (f82.1 1 j2 (2) (by decide) (by decide)).trans (show gV τ56 1 j2 2 = (gV σ 1 j2 2) from (f58.1 1 j2 (2) (by decide) (by decide)).trans (show gV τ40 1 j2 2 = (gV σ 1 j2 2) from (f42.1 1 j2 (2) (by decide) (by decide)).trans (show gV τ21 1 j2 2 = (gV σ 1 j2 2) from (f23.1 1 j2 (2) (by decide) (by decide)).trans (show gV τ7 1 j2 2 = (gV σ 1 j2 2) from (f9.1 1 j2 (2) (by decide) (by decide)).trans rfl)))))))
                  rcases h117 with ⟨h117_0, h117_1, h117_2, h117_3⟩ | ⟨h117_0, h117_1, h117_2, h117_3, h117_4⟩ | ⟨h117_0, h117_1, h117_2, h117_3, h117_4, h117_5⟩
                  · skip
                    have b123 : IV x114 (-1) (-1) := ⟨by omega, by omega⟩
                    show MW p l e _ s m args below meth c _ 7 G 0 0 114 [some (.ref (G.1 12 0)), some (.ref (G.1 1 j2)), some (.int x24), some (.int x59), some (.int x83), some (.int 0), none] [.int x114] τ111
                    refine m_istore (L1 := [some (.ref (G.1 12 0)), some (.ref (G.1 1 j2)), some (.int x24), some (.int x59), some (.int x83), some (.int 0), some (.int x114)]) C dX6_readPerson_114 (by decide) rfl rfl ?_
                    refine m_iload C dX6_readPerson_116 rfl ?_
                    refine m_iconst (v := (-1)) C dX6_readPerson_118 (by decide) ?_
                    refine m_icmp_ne (tgt := 124) C dX6_readPerson_119 (by decide) (fun c124 => ?_) (fun c124 => ?_)
                    · exfalso
                      have q : _ := c124
                      simp only [ti_nle, ti_nlt, ti_le, ti_lt, ti_eq, ti_ne, Classical.not_not, kt_m1] at q
                      have q1 := b123; have q2 := kc_m1; omega
                    · have f126 : x114.toInt = -1 := by
                        have q : _ := c124
                        simp only [ti_nle, ti_nlt, ti_le, ti_lt, ti_eq, ti_ne, Classical.not_not, kt_m1] at q
                        omega
                      refine m_iconst (v := 0) C dX6_readPerson_122 (by decide) ?_
                      exact m_zret C hr rfl hlk (by decide) (by decide) dX6_readPerson_123 ⟨_, rfl, i112, g116, (iv_wk kc_0 (by decide)), (by have qd := per_6 T N st cc i (by omega) (by omega) (by omega) (by omega) (by omega) (by omega) (by omega); have qk := kt_0; refine Or.inl ⟨by omega, by omega, by omega, by omega⟩)⟩
                  · skip
                    have b127 : IV x114 (-1) (-1) := ⟨by omega, by omega⟩
                    show MW p l e _ s m args below meth c _ 7 G 0 0 114 [some (.ref (G.1 12 0)), some (.ref (G.1 1 j2)), some (.int x24), some (.int x59), some (.int x83), some (.int 0), none] [.int x114] τ111
                    refine m_istore (L1 := [some (.ref (G.1 12 0)), some (.ref (G.1 1 j2)), some (.int x24), some (.int x59), some (.int x83), some (.int 0), some (.int x114)]) C dX6_readPerson_114 (by decide) rfl rfl ?_
                    refine m_iload C dX6_readPerson_116 rfl ?_
                    refine m_iconst (v := (-1)) C dX6_readPerson_118 (by decide) ?_
                    refine m_icmp_ne (tgt := 124) C dX6_readPerson_119 (by decide) (fun c128 => ?_) (fun c128 => ?_)
                    · exfalso
                      have q : _ := c128
                      simp only [ti_nle, ti_nlt, ti_le, ti_lt, ti_eq, ti_ne, Classical.not_not, kt_m1] at q
                      have q1 := b127; have q2 := kc_m1; omega
                    · have f130 : x114.toInt = -1 := by
                        have q : _ := c128
                        simp only [ti_nle, ti_nlt, ti_le, ti_lt, ti_eq, ti_ne, Classical.not_not, kt_m1] at q
                        omega
                      refine m_iconst (v := 0) C dX6_readPerson_122 (by decide) ?_
                      exact m_zret C hr rfl hlk (by decide) (by decide) dX6_readPerson_123 ⟨_, rfl, i112, g116, (iv_wk kc_0 (by decide)), (by have qd := per_7 T N st cc i (by omega) (by omega) (by omega) (by omega) (by omega) (by omega) (by omega) (by omega); have qk := kt_0; refine Or.inl ⟨by omega, by omega, by omega, by omega⟩)⟩
                  · skip
                    show MW p l e _ s m args below meth c _ 7 G 0 0 114 [some (.ref (G.1 12 0)), some (.ref (G.1 1 j2)), some (.int x24), some (.int x59), some (.int x83), some (.int 0), none] [.int x114] τ111
                    refine m_istore (L1 := [some (.ref (G.1 12 0)), some (.ref (G.1 1 j2)), some (.int x24), some (.int x59), some (.int x83), some (.int 0), some (.int x114)]) C dX6_readPerson_114 (by decide) rfl rfl ?_
                    refine m_iload C dX6_readPerson_116 rfl ?_
                    refine m_iconst (v := (-1)) C dX6_readPerson_118 (by decide) ?_
                    refine m_icmp_ne (tgt := 124) C dX6_readPerson_119 (by decide) (fun c131 => ?_) (fun c131 => ?_)
                    · have f132 : x114.toInt ≠ -1 := by
                        have q : _ := c131
                        simp only [ti_nle, ti_nlt, ti_le, ti_lt, ti_eq, ti_ne, Classical.not_not, kt_m1] at q
                        omega
                      refine m_aload_n C dX6_readPerson_124 rfl rfl ?_
                      refine m_iload_n C dX6_readPerson_125 rfl rfl ?_
                      refine m_aload_n C dX6_readPerson_126 rfl rfl ?_
                      refine g_1_2 C hj2 q1_81 dX6_readPerson_127 ?_
                      refine m_eqs (w := (gV σ 1 j2 2)) (show gV τ111 1 j2 2 = (gV σ 1 j2 2) from (f113.1 1 j2 (2) (by decide) (by decide)).trans (show gV τ80 1 j2 2 = (gV σ 1 j2 2) from (f82.1 1 j2 (2) (by decide) (by decide)).trans (show gV τ56 1 j2 2 = (gV σ 1 j2 2) from (f58.1 1 j2 (2) (by decide) (by decide)).trans (show gV τ40 1 j2 2 = (gV σ 1 j2 2) from (f42.1 1 j2 (2) (by decide) (by decide)).trans (show gV τ21 1 j2 2 = (gV σ 1 j2 2) from (f23.1 1 j2 (2) (by decide) (by decide)).trans (show gV τ7 1 j2 2 = (gV σ 1 j2 2) from (f9.1 1 j2 (2) (by decide) (by decide)).trans rfl)))))) ?_
                      refine m_iload_n C dX6_readPerson_130 rfl rfl ?_
                      refine m_iload C dX6_readPerson_131 rfl ?_
                      refine m_callS (n := 4) (st := [.ref (G.1 1 j2)]) C (c_X6_newPerson l G τ111 (x24) ((gV σ 1 j2 2)) (x59) (x83) i112 ) q2_166 q2_164 q2_165 q1_2 (by decide +kernel) rfl (by decide) (by decide) rfl (Nat.le_of_ble_eq_true rfl) dX6_readPerson_133 ?_
                      rintro _ τ133 ⟨x136, rfl, i134, f135, h139⟩
                      have g138 : Fr MS_X6_readPersonE AS_X6_readPersonE σ τ133 := Fr.call (g116) f135 (by decide)
                      have v140 : TpC τ133 T N := v118.fr f135 (by decide) (by decide) (by simp) (by decide)
                      have q141 : (gV τ133 1 j2 0).toInt = (gV σ 1 j2 0).toInt := congrArg Int32.toInt (show (gV τ133 1 j2 0) = (gV σ 1 j2 0) from (show gV τ133 1 j2 0 = (gV σ 1 j2 0) from (f135.1 1 j2 (0) (by decide) (by decide)).trans (show gV τ111 1 j2 0 = (gV σ 1 j2 0) from (f113.1 1 j2 (0) (by decide) (by decide)).trans (show gV τ80 1 j2 0 = (gV σ 1 j2 0) from (f82.1 1 j2 (0) (by decide) (by decide)).trans (show gV τ56 1 j2 0 = (gV σ 1 j2 0) from (f58.1 1 j2 (0) (by decide) (by decide)).trans (show gV τ40 1 j2 0 = (gV σ 1 j2 0) from (f42.1 1 j2 (0) (by decide) (by decide)).trans (show gV τ21 1 j2 0 = (gV σ 1 j2 0) from (f23.1 1 j2 (0) (by decide) (by decide)).trans (show gV τ7 1 j2 0 = (gV σ 1 j2 0) from (f9.1 1 j2 (0) (by decide) (by decide)).trans rfl))))))))
                      have q142 : (gV τ133 1 j2 2).toInt = (gV σ 1 j2 2).toInt := congrArg Int32.toInt (show (gV τ133 1 j2 2) = (gV σ 1 j2 2) from (show gV τ133 1 j2 2 = (gV σ 1 j2 2) from (f135.1 1 j2 (2) (by decide) (by decide)).trans (show gV τ111 1 j2 2 = (gV σ 1 j2 2) from (f113.1 1 j2 (2) (by decide) (by decide)).trans (show gV τ80 1 j2 2 = (gV σ 1 j2 2) from (f82.1 1 j2 (2) (by decide) (by decide)).trans (show gV τ56 1 j2 2 = (gV σ 1 j2 2) from (f58.1 1 j2 (2) (by decide) (by decide)).trans (show gV τ40 1 j2 2 = (gV σ 1 j2 2) from (f42.1 1 j2 (2) (by decide) (by decide)).trans (show gV τ21 1 j2 2 = (gV σ 1 j2 2) from (f23.1 1 j2 (2) (by decide) (by decide)).trans (show gV τ7 1 j2 2 = (gV σ 1 j2 2) from (f9.1 1 j2 (2) (by decide) (by decide)).trans rfl))))))))
                      have q143 : (gV τ133 12 0 2).toInt = (gV τ111 12 0 2).toInt := congrArg Int32.toInt (show (gV τ133 12 0 2) = (gV τ111 12 0 2) from (show gV τ133 12 0 2 = (gV τ111 12 0 2) from (f135.1 12 0 (2) (by decide) (by decide)).trans rfl))
                      have q144 : (gV τ133 12 0 3).toInt = (gV τ111 12 0 3).toInt := congrArg Int32.toInt (show (gV τ133 12 0 3) = (gV τ111 12 0 3) from (show gV τ133 12 0 3 = (gV τ111 12 0 3) from (f135.1 12 0 (3) (by decide) (by decide)).trans rfl))
                      have q145 : (gV τ133 12 0 4).toInt = (gV τ111 12 0 4).toInt := congrArg Int32.toInt (show (gV τ133 12 0 4) = (gV τ111 12 0 4) from (show gV τ133 12 0 4 = (gV τ111 12 0 4) from (f135.1 12 0 (4) (by decide) (by decide)).trans rfl))
                      have q146 : (gV τ133 12 0 5).toInt = (gV τ111 12 0 5).toInt := congrArg Int32.toInt (show (gV τ133 12 0 5) = (gV τ111 12 0 5) from (show gV τ133 12 0 5 = (gV τ111 12 0 5) from (f135.1 12 0 (5) (by decide) (by decide)).trans rfl))
                      have q147 : (gV τ133 12 0 6).toInt = (gV τ111 12 0 6).toInt := congrArg Int32.toInt (show (gV τ133 12 0 6) = (gV τ111 12 0 6) from (show gV τ133 12 0 6 = (gV τ111 12 0 6) from (f135.1 12 0 (6) (by decide) (by decide)).trans rfl))
                      have q148 : (gV τ133 12 0 7).toInt = (gV τ111 12 0 7).toInt := congrArg Int32.toInt (show (gV τ133 12 0 7) = (gV τ111 12 0 7) from (show gV τ133 12 0 7 = (gV τ111 12 0 7) from (f135.1 12 0 (7) (by decide) (by decide)).trans rfl))
                      obtain ⟨x136q, rfl, x136m⟩ := h139
                      show MW p l e _ s m args below meth c _ 7 G 1 3 136 [some (.ref (G.1 12 0)), some (.ref (G.1 1 j2)), some (.int x24), some (.int x59), some (.int x83), some (.int 0), some (.int x114)] [.ref x136q, .ref (G.1 1 j2)] τ133
                      refine m_iload C dX6_readPerson_136 rfl ?_
                      refine m_if_eq (tgt := 145) C dX6_readPerson_138 (by decide) (fun c149 => ?_) (fun c149 => ?_)
                      · have f150 : 0 = 0 := by
                          have q : _ := c149
                          simp only [ti_nle, ti_nlt, ti_le, ti_lt, ti_eq, ti_ne, Classical.not_not, kt_0, kt_0] at q
                          omega
                        refine m_iload C dX6_readPerson_145 rfl ?_
                        refine m_callV (n := 2) (ci := 7) (st := []) C (c_X8_addPersonE l G τ133 (j := j2) hj2 x136q (x114) i134 x136m) (by decide) hj2 rfl rfl rfl q2_235 q2_232 q2_233 q2_234 q1_3 (by decide +kernel) rfl (by decide) (by decide) rfl (Nat.le_of_ble_eq_true rfl) dX6_readPerson_147 ?_
                        rintro _ τ151 ⟨rfl, i152, f153, h157⟩
                        have g156 : Fr MS_X6_readPersonE AS_X6_readPersonE σ τ151 := Fr.call (g138) f153 (by decide)
                        have v158 : TpC τ151 T N := v140.fr f153 (by decide) (by decide) (by simp) (by decide)
                        have v159 : x136q ∈ τ151.2.2.2.1 := by rw [f153.2.2 (by decide)]; exact x136m
                        have u160 : IV (gV τ151 1 j2 2) 0 7 := i152.1 1 j2 2
                        have q161 : (gV τ151 1 j2 0).toInt = (gV σ 1 j2 0).toInt := congrArg Int32.toInt (show (gV τ151 1 j2 0) = (gV σ 1 j2 0) from (show gV τ151 1 j2 0 = (gV σ 1 j2 0) from (f153.1 1 j2 (0) (by decide) (by decide)).trans (show gV τ133 1 j2 0 = (gV σ 1 j2 0) from (f135.1 1 j2 (0) (by decide) (by decide)).trans (show gV τ111 1 j2 0 = (gV σ 1 j2 0) from (f113.1 1 j2 (0) (by decide) (by decide)).trans (show gV τ80 1 j2 0 = (gV σ 1 j2 0) from (f82.1 1 j2 (0) (by decide) (by decide)).trans (show gV τ56 1 j2 0 = (gV σ 1 j2 0) from (f58.1 1 j2 (0) (by decide) (by decide)).trans (show gV τ40 1 j2 0 = (gV σ 1 j2 0) from (f42.1 1 j2 (0) (by decide) (by decide)).trans (show gV τ21 1 j2 0 = (gV σ 1 j2 0) from (f23.1 1 j2 (0) (by decide) (by decide)).trans (show gV τ7 1 j2 0 = (gV σ 1 j2 0) from (f9.1 1 j2 (0) (by decide) (by decide)).trans rfl)))))))))
                        have q162 : (gV τ151 12 0 2).toInt = (gV τ111 12 0 2).toInt := congrArg Int32.toInt (show (gV τ151 12 0 2) = (gV τ111 12 0 2) from (show gV τ151 12 0 2 = (gV τ111 12 0 2) from (f153.1 12 0 (2) (by decide) (by decide)).trans (show gV τ133 12 0 2 = (gV τ111 12 0 2) from (f135.1 12 0 (2) (by decide) (by decide)).trans rfl)))
                        have q163 : (gV τ151 12 0 3).toInt = (gV τ111 12 0 3).toInt := congrArg Int32.toInt (show (gV τ151 12 0 3) = (gV τ111 12 0 3) from (show gV τ151 12 0 3 = (gV τ111 12 0 3) from (f153.1 12 0 (3) (by decide) (by decide)).trans (show gV τ133 12 0 3 = (gV τ111 12 0 3) from (f135.1 12 0 (3) (by decide) (by decide)).trans rfl)))
                        have q164 : (gV τ151 12 0 4).toInt = (gV τ111 12 0 4).toInt := congrArg Int32.toInt (show (gV τ151 12 0 4) = (gV τ111 12 0 4) from (show gV τ151 12 0 4 = (gV τ111 12 0 4) from (f153.1 12 0 (4) (by decide) (by decide)).trans (show gV τ133 12 0 4 = (gV τ111 12 0 4) from (f135.1 12 0 (4) (by decide) (by decide)).trans rfl)))
                        have q165 : (gV τ151 12 0 5).toInt = (gV τ111 12 0 5).toInt := congrArg Int32.toInt (show (gV τ151 12 0 5) = (gV τ111 12 0 5) from (show gV τ151 12 0 5 = (gV τ111 12 0 5) from (f153.1 12 0 (5) (by decide) (by decide)).trans (show gV τ133 12 0 5 = (gV τ111 12 0 5) from (f135.1 12 0 (5) (by decide) (by decide)).trans rfl)))
                        have q166 : (gV τ151 12 0 6).toInt = (gV τ111 12 0 6).toInt := congrArg Int32.toInt (show (gV τ151 12 0 6) = (gV τ111 12 0 6) from (show gV τ151 12 0 6 = (gV τ111 12 0 6) from (f153.1 12 0 (6) (by decide) (by decide)).trans (show gV τ133 12 0 6 = (gV τ111 12 0 6) from (f135.1 12 0 (6) (by decide) (by decide)).trans rfl)))
                        have q167 : (gV τ151 12 0 7).toInt = (gV τ111 12 0 7).toInt := congrArg Int32.toInt (show (gV τ151 12 0 7) = (gV τ111 12 0 7) from (show gV τ151 12 0 7 = (gV τ111 12 0 7) from (f153.1 12 0 (7) (by decide) (by decide)).trans (show gV τ133 12 0 7 = (gV τ111 12 0 7) from (f135.1 12 0 (7) (by decide) (by decide)).trans rfl)))
                        show MW p l e _ s m args below meth c _ 7 G 1 3 150 [some (.ref (G.1 12 0)), some (.ref (G.1 1 j2)), some (.int x24), some (.int x59), some (.int x83), some (.int 0), some (.int x114)] [] τ151
                        refine m_aload_n C dX6_readPerson_150 rfl rfl ?_
                        refine m_callV (n := 0) (ci := 5) (st := []) C (c_X6_passSemicolonE l G τ151 T N (tE T N (tE T N (tE T N (tE T N (tE T N i)))))  i152 v158 (by omega)) (by decide) (by decide) rfl rfl rfl q2_149 q2_146 q2_148 q0_10 q1_2 (by decide +kernel) rfl (by decide) (by decide) rfl (Nat.le_of_ble_eq_true rfl) dX6_readPerson_151 ?_
                        rintro _ τ168 ⟨x171, rfl, i169, f170, b172, h174⟩
                        have g173 : Fr MS_X6_readPersonE AS_X6_readPersonE σ τ168 := Fr.call (g156) f170 (by decide)
                        clear h117_5
                        have v175 : TpC τ168 T N := v158.fr f170 (by decide) (by decide) (by simp) (by decide)
                        have v176 : x136q ∈ τ168.2.2.2.1 := by rw [f170.2.2 (by decide)]; exact v159
                        have u177 : IV (gV τ168 12 0 4) 0 400 := i169.1 12 0 4
                        have u178 : IV (gV τ168 12 0 5) 0 400 := i169.1 12 0 5
                        have q179 : (gV τ168 1 j2 0).toInt = (gV σ 1 j2 0).toInt := congrArg Int32.toInt (show (gV τ168 1 j2 0) = (gV σ 1 j2 0) from (show gV τ168 1 j2 0 = (gV σ 1 j2 0) from (f170.1 1 j2 (0) (by decide) (by decide)).trans (show gV τ151 1 j2 0 = (gV σ 1 j2 0) from (f153.1 1 j2 (0) (by decide) (by decide)).trans (show gV τ133 1 j2 0 = (gV σ 1 j2 0) from (f135.1 1 j2 (0) (by decide) (by decide)).trans (show gV τ111 1 j2 0 = (gV σ 1 j2 0) from (f113.1 1 j2 (0) (by decide) (by decide)).trans (show gV τ80 1 j2 0 = (gV σ 1 j2 0) from (f82.1 1 j2 (0) (by decide) (by decide)).trans (show gV τ56 1 j2 0 = (gV σ 1 j2 0) from (f58.1 1 j2 (0) (by decide) (by decide)).trans (show gV τ40 1 j2 0 = (gV σ 1 j2 0) from (f42.1 1 j2 (0) (by decide) (by decide)).trans (show gV τ21 1 j2 0 = (gV σ 1 j2 0) from (f23.1 1 j2 (0) (by decide) (by decide)).trans (show gV τ7 1 j2 0 = (gV σ 1 j2 0) from (f9.1 1 j2 (0) (by decide) (by decide)).trans rfl))))))))))
                        have q180 : (gV τ168 1 j2 2).toInt = (gV τ151 1 j2 2).toInt := congrArg Int32.toInt (show (gV τ168 1 j2 2) = (gV τ151 1 j2 2) from (show gV τ168 1 j2 2 = (gV τ151 1 j2 2) from (f170.1 1 j2 (2) (by decide) (by decide)).trans rfl))
                        rcases h174 with ⟨h174_0, h174_1, h174_2, h174_3⟩ | ⟨h174_0, h174_1, h174_2, h174_3⟩
                        · skip
                          have b181 : IV x171 0 0 := ⟨by omega, by omega⟩
                          show MW p l e _ s m args below meth c _ 7 G 1 3 154 [some (.ref (G.1 12 0)), some (.ref (G.1 1 j2)), some (.int x24), some (.int x59), some (.int x83), some (.int 0), some (.int x114)] [.int x171] τ168
                          exact m_zret C hr (nar_z (iv_wk b181 (by decide))) hlk (by decide) (by decide) dX6_readPerson_154 ⟨_, rfl, i169, g173, (iv_wk b181 (by decide)), (by have qd := per_8 T N st cc i (by omega) (by omega) (by omega) (by omega) (by omega) (by omega) (by omega) (by omega) (by omega); refine Or.inl ⟨by omega, by omega, by omega, by omega⟩)⟩
                        · skip
                          have b182 : IV x171 1 1 := ⟨by omega, by omega⟩
                          show MW p l e _ s m args below meth c _ 7 G 1 3 154 [some (.ref (G.1 12 0)), some (.ref (G.1 1 j2)), some (.int x24), some (.int x59), some (.int x83), some (.int 0), some (.int x114)] [.int x171] τ168
                          exact m_zret C hr (nar_z (iv_wk b182 (by decide))) hlk (by decide) (by decide) dX6_readPerson_154 ⟨_, rfl, i169, g173, (iv_wk b182 (by decide)), (by have qd := per_ok T N st cc i (by omega) (by omega) (by omega) (by omega) (by omega) (by omega) (by omega) (by omega) (by omega); refine Or.inr ⟨by omega, by omega, by omega, by omega, by omega⟩)⟩
                      · first | exact absurd c149 (by decide) | exact absurd (by decide) c149
                    · have f184 : x114.toInt = -1 := by
                        have q : _ := c131
                        simp only [ti_nle, ti_nlt, ti_le, ti_lt, ti_eq, ti_ne, Classical.not_not, kt_m1] at q
                        omega
                      have b185 : IV x114 (-1) (-1) := ⟨by have q1 := b115; have q2 := kc_m1; omega, by have q1 := b115; have q2 := kc_m1; omega⟩
                      refine m_iconst (v := 0) C dX6_readPerson_122 (by decide) ?_
                      exact m_zret C hr rfl hlk (by decide) (by decide) dX6_readPerson_123 ⟨_, rfl, i112, g116, (iv_wk kc_0 (by decide)), (by have qd := per_ok T N st cc i (by omega) (by omega) (by omega) (by omega) (by omega) (by omega) (by omega) (by omega) (by omega); have qk := kt_0; refine Or.inl ⟨by omega, by omega, by omega, by omega⟩)⟩
                · first | exact absurd c104 (by decide) | exact absurd (by decide) c104
              · have f187 : (gV τ80 12 0 6).toInt = 2 := by
                  have q : _ := c102
                  simp only [ti_nle, ti_nlt, ti_le, ti_lt, ti_eq, ti_ne, Classical.not_not, kt_2] at q
                  omega
                have b188 : IV (gV τ80 12 0 6) 2 2 := ⟨by have q1 := (iv_any (gV τ80 12 0 6)); have q2 := kc_2; omega, by have q1 := (iv_any (gV τ80 12 0 6)); have q2 := kc_2; omega⟩
                refine m_aload_n C dX6_readPerson_77 rfl rfl ?_
                refine g_12_7 C q1_47 dX6_readPerson_78 ?_
                refine m_eqs (w := (gV τ80 12 0 7)) rfl ?_
                refine m_bipush (v := 99) C dX6_readPerson_81 (by decide) ?_
                refine m_icmp_ne (tgt := 90) C dX6_readPerson_83 (by decide) (fun c189 => ?_) (fun c189 => ?_)
                · have f190 : (gV τ80 12 0 7).toInt ≠ 99 := by
                    have q : _ := c189
                    simp only [ti_nle, ti_nlt, ti_le, ti_lt, ti_eq, ti_ne, Classical.not_not, kt_99] at q
                    omega
                  refine m_iconst (v := 0) C dX6_readPerson_90 (by decide) ?_
                  refine m_istore (L1 := [some (.ref (G.1 12 0)), some (.ref (G.1 1 j2)), some (.int x24), some (.int x59), some (.int x83), some (.int 0), none]) C dX6_readPerson_91 (by decide) rfl rfl ?_
                  refine m_aload_n C dX6_readPerson_93 rfl rfl ?_
                  refine m_iconst (v := 0) C dX6_readPerson_94 (by decide) ?_
                  refine m_iload C dX6_readPerson_95 rfl ?_
                  refine m_if_eq (tgt := 105) C dX6_readPerson_97 (by decide) (fun c191 => ?_) (fun c191 => ?_)
                  · have f192 : 0 = 0 := by
                      have q : _ := c191
                      simp only [ti_nle, ti_nlt, ti_le, ti_lt, ti_eq, ti_ne, Classical.not_not, kt_0, kt_0] at q
                      omega
                    have q193 : ¬ (tK T N (tE T N (tE T N (tE T N (tE T N i)))) = 2 ∧ tV T (tE T N (tE T N (tE T N (tE T N i)))) = 99) := by omega
                    refine m_aload_n C dX6_readPerson_105 rfl rfl ?_
                    refine g_1_0 C hj2 q1_75 dX6_readPerson_106 ?_
                    refine m_eqs (w := (gV σ 1 j2 0)) (show gV τ80 1 j2 0 = (gV σ 1 j2 0) from (f82.1 1 j2 (0) (by decide) (by decide)).trans (show gV τ56 1 j2 0 = (gV σ 1 j2 0) from (f58.1 1 j2 (0) (by decide) (by decide)).trans (show gV τ40 1 j2 0 = (gV σ 1 j2 0) from (f42.1 1 j2 (0) (by decide) (by decide)).trans (show gV τ21 1 j2 0 = (gV σ 1 j2 0) from (f23.1 1 j2 (0) (by decide) (by decide)).trans (show gV τ7 1 j2 0 = (gV σ 1 j2 0) from (f9.1 1 j2 (0) (by decide) (by decide)).trans rfl))))) ?_
                    have b194 : IV (gV σ 1 j2 0) 4 32 := ⟨by have q1 := (iv_any (gV σ 1 j2 0)); omega, by have q1 := (iv_any (gV σ 1 j2 0)); omega⟩
                    refine m_iconst (v := 1) C dX6_readPerson_109 (by decide) ?_
                    refine m_isub C dX6_readPerson_110 ?_
                    refine m_topi (fun x195 ex195 => ?_)
                    have tx195 : x195.toInt = (gV σ 1 j2 0).toInt - 1 := by rw [ex195, ti_subv b194 kc_1 (by decide), kt_1]
                    have b196 : IV x195 3 31 := by rw [ex195]; exact iv_sub b194 kc_1 (by decide)
                    have q197 := kt_0
                    refine m_callV (n := 2) (ci := 5) (st := []) C (c_X6_numberE l G τ80 T N (tE T N (tE T N (tE T N (tE T N i)))) (0) (x195) i81 v87 (by omega)) (by decide) (by decide) rfl rfl rfl q2_145 q2_142 q2_144 q0_9 q1_2 (by decide +kernel) rfl (by decide) (by decide) rfl (Nat.le_of_ble_eq_true rfl) dX6_readPerson_111 ?_
                    rintro _ τ198 ⟨x201, rfl, i199, f200, b202, h204⟩
                    have g203 : Fr MS_X6_readPersonE AS_X6_readPersonE σ τ198 := Fr.call (g85) f200 (by decide)
                    clear h86_5
                    have v205 : TpC τ198 T N := v87.fr f200 (by decide) (by decide) (by simp) (by decide)
                    have u206 : IV (gV τ198 12 0 4) 0 400 := i199.1 12 0 4
                    have u207 : IV (gV τ198 12 0 5) 0 400 := i199.1 12 0 5
                    have q208 : (gV τ198 1 j2 0).toInt = (gV σ 1 j2 0).toInt := congrArg Int32.toInt (show (gV τ198 1 j2 0) = (gV σ 1 j2 0) from (show gV τ198 1 j2 0 = (gV σ 1 j2 0) from (f200.1 1 j2 (0) (by decide) (by decide)).trans (show gV τ80 1 j2 0 = (gV σ 1 j2 0) from (f82.1 1 j2 (0) (by decide) (by decide)).trans (show gV τ56 1 j2 0 = (gV σ 1 j2 0) from (f58.1 1 j2 (0) (by decide) (by decide)).trans (show gV τ40 1 j2 0 = (gV σ 1 j2 0) from (f42.1 1 j2 (0) (by decide) (by decide)).trans (show gV τ21 1 j2 0 = (gV σ 1 j2 0) from (f23.1 1 j2 (0) (by decide) (by decide)).trans (show gV τ7 1 j2 0 = (gV σ 1 j2 0) from (f9.1 1 j2 (0) (by decide) (by decide)).trans rfl)))))))
                    have q209 : (gV τ198 1 j2 2).toInt = (gV σ 1 j2 2).toInt := congrArg Int32.toInt (show (gV τ198 1 j2 2) = (gV σ 1 j2 2) from (show gV τ198 1 j2 2 = (gV σ 1 j2 2) from (f200.1 1 j2 (2) (by decide) (by decide)).trans (show gV τ80 1 j2 2 = (gV σ 1 j2 2) from (f82.1 1 j2 (2) (by decide) (by decide)).trans (show gV τ56 1 j2 2 = (gV σ 1 j2 2) from (f58.1 1 j2 (2) (by decide) (by decide)).trans (show gV τ40 1 j2 2 = (gV σ 1 j2 2) from (f42.1 1 j2 (2) (by decide) (by decide)).trans (show gV τ21 1 j2 2 = (gV σ 1 j2 2) from (f23.1 1 j2 (2) (by decide) (by decide)).trans (show gV τ7 1 j2 2 = (gV σ 1 j2 2) from (f9.1 1 j2 (2) (by decide) (by decide)).trans rfl)))))))
                    rcases h204 with ⟨h204_0, h204_1, h204_2, h204_3⟩ | ⟨h204_0, h204_1, h204_2, h204_3, h204_4⟩ | ⟨h204_0, h204_1, h204_2, h204_3, h204_4, h204_5⟩
                    · skip
                      have b210 : IV x201 (-1) (-1) := ⟨by omega, by omega⟩
                      show MW p l e _ s m args below meth c _ 7 G 0 0 114 [some (.ref (G.1 12 0)), some (.ref (G.1 1 j2)), some (.int x24), some (.int x59), some (.int x83), some (.int 0), none] [.int x201] τ198
                      refine m_istore (L1 := [some (.ref (G.1 12 0)), some (.ref (G.1 1 j2)), some (.int x24), some (.int x59), some (.int x83), some (.int 0), some (.int x201)]) C dX6_readPerson_114 (by decide) rfl rfl ?_
                      refine m_iload C dX6_readPerson_116 rfl ?_
                      refine m_iconst (v := (-1)) C dX6_readPerson_118 (by decide) ?_
                      refine m_icmp_ne (tgt := 124) C dX6_readPerson_119 (by decide) (fun c211 => ?_) (fun c211 => ?_)
                      · exfalso
                        have q : _ := c211
                        simp only [ti_nle, ti_nlt, ti_le, ti_lt, ti_eq, ti_ne, Classical.not_not, kt_m1] at q
                        have q1 := b210; have q2 := kc_m1; omega
                      · have f213 : x201.toInt = -1 := by
                          have q : _ := c211
                          simp only [ti_nle, ti_nlt, ti_le, ti_lt, ti_eq, ti_ne, Classical.not_not, kt_m1] at q
                          omega
                        refine m_iconst (v := 0) C dX6_readPerson_122 (by decide) ?_
                        exact m_zret C hr rfl hlk (by decide) (by decide) dX6_readPerson_123 ⟨_, rfl, i199, g203, (iv_wk kc_0 (by decide)), (by have qd := per_6 T N st cc i (by omega) (by omega) (by omega) (by omega) (by omega) (by omega) (by omega); have qk := kt_0; refine Or.inl ⟨by omega, by omega, by omega, by omega⟩)⟩
                    · skip
                      have b214 : IV x201 (-1) (-1) := ⟨by omega, by omega⟩
                      show MW p l e _ s m args below meth c _ 7 G 0 0 114 [some (.ref (G.1 12 0)), some (.ref (G.1 1 j2)), some (.int x24), some (.int x59), some (.int x83), some (.int 0), none] [.int x201] τ198
                      refine m_istore (L1 := [some (.ref (G.1 12 0)), some (.ref (G.1 1 j2)), some (.int x24), some (.int x59), some (.int x83), some (.int 0), some (.int x201)]) C dX6_readPerson_114 (by decide) rfl rfl ?_
                      refine m_iload C dX6_readPerson_116 rfl ?_
                      refine m_iconst (v := (-1)) C dX6_readPerson_118 (by decide) ?_
                      refine m_icmp_ne (tgt := 124) C dX6_readPerson_119 (by decide) (fun c215 => ?_) (fun c215 => ?_)
                      · exfalso
                        have q : _ := c215
                        simp only [ti_nle, ti_nlt, ti_le, ti_lt, ti_eq, ti_ne, Classical.not_not, kt_m1] at q
                        have q1 := b214; have q2 := kc_m1; omega
                      · have f217 : x201.toInt = -1 := by
                          have q : _ := c215
                          simp only [ti_nle, ti_nlt, ti_le, ti_lt, ti_eq, ti_ne, Classical.not_not, kt_m1] at q
                          omega
                        refine m_iconst (v := 0) C dX6_readPerson_122 (by decide) ?_
                        exact m_zret C hr rfl hlk (by decide) (by decide) dX6_readPerson_123 ⟨_, rfl, i199, g203, (iv_wk kc_0 (by decide)), (by have qd := per_7 T N st cc i (by omega) (by omega) (by omega) (by omega) (by omega) (by omega) (by omega) (by omega); have qk := kt_0; refine Or.inl ⟨by omega, by omega, by omega, by omega⟩)⟩
                    · skip
                      show MW p l e _ s m args below meth c _ 7 G 0 0 114 [some (.ref (G.1 12 0)), some (.ref (G.1 1 j2)), some (.int x24), some (.int x59), some (.int x83), some (.int 0), none] [.int x201] τ198
                      refine m_istore (L1 := [some (.ref (G.1 12 0)), some (.ref (G.1 1 j2)), some (.int x24), some (.int x59), some (.int x83), some (.int 0), some (.int x201)]) C dX6_readPerson_114 (by decide) rfl rfl ?_
                      refine m_iload C dX6_readPerson_116 rfl ?_
                      refine m_iconst (v := (-1)) C dX6_readPerson_118 (by decide) ?_
                      refine m_icmp_ne (tgt := 124) C dX6_readPerson_119 (by decide) (fun c218 => ?_) (fun c218 => ?_)
                      · have f219 : x201.toInt ≠ -1 := by
                          have q : _ := c218
                          simp only [ti_nle, ti_nlt, ti_le, ti_lt, ti_eq, ti_ne, Classical.not_not, kt_m1] at q
                          omega
                        refine m_aload_n C dX6_readPerson_124 rfl rfl ?_
                        refine m_iload_n C dX6_readPerson_125 rfl rfl ?_
                        refine m_aload_n C dX6_readPerson_126 rfl rfl ?_
                        refine g_1_2 C hj2 q1_81 dX6_readPerson_127 ?_
                        refine m_eqs (w := (gV σ 1 j2 2)) (show gV τ198 1 j2 2 = (gV σ 1 j2 2) from (f200.1 1 j2 (2) (by decide) (by decide)).trans (show gV τ80 1 j2 2 = (gV σ 1 j2 2) from (f82.1 1 j2 (2) (by decide) (by decide)).trans (show gV τ56 1 j2 2 = (gV σ 1 j2 2) from (f58.1 1 j2 (2) (by decide) (by decide)).trans (show gV τ40 1 j2 2 = (gV σ 1 j2 2) from (f42.1 1 j2 (2) (by decide) (by decide)).trans (show gV τ21 1 j2 2 = (gV σ 1 j2 2) from (f23.1 1 j2 (2) (by decide) (by decide)).trans (show gV τ7 1 j2 2 = (gV σ 1 j2 2) from (f9.1 1 j2 (2) (by decide) (by decide)).trans rfl)))))) ?_
                        refine m_iload_n C dX6_readPerson_130 rfl rfl ?_
                        refine m_iload C dX6_readPerson_131 rfl ?_
                        refine m_callS (n := 4) (st := [.ref (G.1 1 j2)]) C (c_X6_newPerson l G τ198 (x24) ((gV σ 1 j2 2)) (x59) (x83) i199 ) q2_166 q2_164 q2_165 q1_2 (by decide +kernel) rfl (by decide) (by decide) rfl (Nat.le_of_ble_eq_true rfl) dX6_readPerson_133 ?_
                        rintro _ τ220 ⟨x223, rfl, i221, f222, h226⟩
                        have g225 : Fr MS_X6_readPersonE AS_X6_readPersonE σ τ220 := Fr.call (g203) f222 (by decide)
                        have v227 : TpC τ220 T N := v205.fr f222 (by decide) (by decide) (by simp) (by decide)
                        have q228 : (gV τ220 1 j2 0).toInt = (gV σ 1 j2 0).toInt := congrArg Int32.toInt (show (gV τ220 1 j2 0) = (gV σ 1 j2 0) from (show gV τ220 1 j2 0 = (gV σ 1 j2 0) from (f222.1 1 j2 (0) (by decide) (by decide)).trans (show gV τ198 1 j2 0 = (gV σ 1 j2 0) from (f200.1 1 j2 (0) (by decide) (by decide)).trans (show gV τ80 1 j2 0 = (gV σ 1 j2 0) from (f82.1 1 j2 (0) (by decide) (by decide)).trans (show gV τ56 1 j2 0 = (gV σ 1 j2 0) from (f58.1 1 j2 (0) (by decide) (by decide)).trans (show gV τ40 1 j2 0 = (gV σ 1 j2 0) from (f42.1 1 j2 (0) (by decide) (by decide)).trans (show gV τ21 1 j2 0 = (gV σ 1 j2 0) from (f23.1 1 j2 (0) (by decide) (by decide)).trans (show gV τ7 1 j2 0 = (gV σ 1 j2 0) from (f9.1 1 j2 (0) (by decide) (by decide)).trans rfl))))))))
                        have q229 : (gV τ220 1 j2 2).toInt = (gV σ 1 j2 2).toInt := congrArg Int32.toInt (show (gV τ220 1 j2 2) = (gV σ 1 j2 2) from (show gV τ220 1 j2 2 = (gV σ 1 j2 2) from (f222.1 1 j2 (2) (by decide) (by decide)).trans (show gV τ198 1 j2 2 = (gV σ 1 j2 2) from (f200.1 1 j2 (2) (by decide) (by decide)).trans (show gV τ80 1 j2 2 = (gV σ 1 j2 2) from (f82.1 1 j2 (2) (by decide) (by decide)).trans (show gV τ56 1 j2 2 = (gV σ 1 j2 2) from (f58.1 1 j2 (2) (by decide) (by decide)).trans (show gV τ40 1 j2 2 = (gV σ 1 j2 2) from (f42.1 1 j2 (2) (by decide) (by decide)).trans (show gV τ21 1 j2 2 = (gV σ 1 j2 2) from (f23.1 1 j2 (2) (by decide) (by decide)).trans (show gV τ7 1 j2 2 = (gV σ 1 j2 2) from (f9.1 1 j2 (2) (by decide) (by decide)).trans rfl))))))))
                        have q230 : (gV τ220 12 0 2).toInt = (gV τ198 12 0 2).toInt := congrArg Int32.toInt (show (gV τ220 12 0 2) = (gV τ198 12 0 2) from (show gV τ220 12 0 2 = (gV τ198 12 0 2) from (f222.1 12 0 (2) (by decide) (by decide)).trans rfl))
                        have q231 : (gV τ220 12 0 3).toInt = (gV τ198 12 0 3).toInt := congrArg Int32.toInt (show (gV τ220 12 0 3) = (gV τ198 12 0 3) from (show gV τ220 12 0 3 = (gV τ198 12 0 3) from (f222.1 12 0 (3) (by decide) (by decide)).trans rfl))
                        have q232 : (gV τ220 12 0 4).toInt = (gV τ198 12 0 4).toInt := congrArg Int32.toInt (show (gV τ220 12 0 4) = (gV τ198 12 0 4) from (show gV τ220 12 0 4 = (gV τ198 12 0 4) from (f222.1 12 0 (4) (by decide) (by decide)).trans rfl))
                        have q233 : (gV τ220 12 0 5).toInt = (gV τ198 12 0 5).toInt := congrArg Int32.toInt (show (gV τ220 12 0 5) = (gV τ198 12 0 5) from (show gV τ220 12 0 5 = (gV τ198 12 0 5) from (f222.1 12 0 (5) (by decide) (by decide)).trans rfl))
                        have q234 : (gV τ220 12 0 6).toInt = (gV τ198 12 0 6).toInt := congrArg Int32.toInt (show (gV τ220 12 0 6) = (gV τ198 12 0 6) from (show gV τ220 12 0 6 = (gV τ198 12 0 6) from (f222.1 12 0 (6) (by decide) (by decide)).trans rfl))
                        have q235 : (gV τ220 12 0 7).toInt = (gV τ198 12 0 7).toInt := congrArg Int32.toInt (show (gV τ220 12 0 7) = (gV τ198 12 0 7) from (show gV τ220 12 0 7 = (gV τ198 12 0 7) from (f222.1 12 0 (7) (by decide) (by decide)).trans rfl))
                        obtain ⟨x223q, rfl, x223m⟩ := h226
                        show MW p l e _ s m args below meth c _ 7 G 1 3 136 [some (.ref (G.1 12 0)), some (.ref (G.1 1 j2)), some (.int x24), some (.int x59), some (.int x83), some (.int 0), some (.int x201)] [.ref x223q, .ref (G.1 1 j2)] τ220
                        refine m_iload C dX6_readPerson_136 rfl ?_
                        refine m_if_eq (tgt := 145) C dX6_readPerson_138 (by decide) (fun c236 => ?_) (fun c236 => ?_)
                        · have f237 : 0 = 0 := by
                            have q : _ := c236
                            simp only [ti_nle, ti_nlt, ti_le, ti_lt, ti_eq, ti_ne, Classical.not_not, kt_0, kt_0] at q
                            omega
                          refine m_iload C dX6_readPerson_145 rfl ?_
                          refine m_callV (n := 2) (ci := 7) (st := []) C (c_X8_addPersonE l G τ220 (j := j2) hj2 x223q (x201) i221 x223m) (by decide) hj2 rfl rfl rfl q2_235 q2_232 q2_233 q2_234 q1_3 (by decide +kernel) rfl (by decide) (by decide) rfl (Nat.le_of_ble_eq_true rfl) dX6_readPerson_147 ?_
                          rintro _ τ238 ⟨rfl, i239, f240, h244⟩
                          have g243 : Fr MS_X6_readPersonE AS_X6_readPersonE σ τ238 := Fr.call (g225) f240 (by decide)
                          have v245 : TpC τ238 T N := v227.fr f240 (by decide) (by decide) (by simp) (by decide)
                          have v246 : x223q ∈ τ238.2.2.2.1 := by rw [f240.2.2 (by decide)]; exact x223m
                          have u247 : IV (gV τ238 1 j2 2) 0 7 := i239.1 1 j2 2
                          have q248 : (gV τ238 1 j2 0).toInt = (gV σ 1 j2 0).toInt := congrArg Int32.toInt (show (gV τ238 1 j2 0) = (gV σ 1 j2 0) from (show gV τ238 1 j2 0 = (gV σ 1 j2 0) from (f240.1 1 j2 (0) (by decide) (by decide)).trans (show gV τ220 1 j2 0 = (gV σ 1 j2 0) from (f222.1 1 j2 (0) (by decide) (by decide)).trans (show gV τ198 1 j2 0 = (gV σ 1 j2 0) from (f200.1 1 j2 (0) (by decide) (by decide)).trans (show gV τ80 1 j2 0 = (gV σ 1 j2 0) from (f82.1 1 j2 (0) (by decide) (by decide)).trans (show gV τ56 1 j2 0 = (gV σ 1 j2 0) from (f58.1 1 j2 (0) (by decide) (by decide)).trans (show gV τ40 1 j2 0 = (gV σ 1 j2 0) from (f42.1 1 j2 (0) (by decide) (by decide)).trans (show gV τ21 1 j2 0 = (gV σ 1 j2 0) from (f23.1 1 j2 (0) (by decide) (by decide)).trans (show gV τ7 1 j2 0 = (gV σ 1 j2 0) from (f9.1 1 j2 (0) (by decide) (by decide)).trans rfl)))))))))
                          have q249 : (gV τ238 12 0 2).toInt = (gV τ198 12 0 2).toInt := congrArg Int32.toInt (show (gV τ238 12 0 2) = (gV τ198 12 0 2) from (show gV τ238 12 0 2 = (gV τ198 12 0 2) from (f240.1 12 0 (2) (by decide) (by decide)).trans (show gV τ220 12 0 2 = (gV τ198 12 0 2) from (f222.1 12 0 (2) (by decide) (by decide)).trans rfl)))
                          have q250 : (gV τ238 12 0 3).toInt = (gV τ198 12 0 3).toInt := congrArg Int32.toInt (show (gV τ238 12 0 3) = (gV τ198 12 0 3) from (show gV τ238 12 0 3 = (gV τ198 12 0 3) from (f240.1 12 0 (3) (by decide) (by decide)).trans (show gV τ220 12 0 3 = (gV τ198 12 0 3) from (f222.1 12 0 (3) (by decide) (by decide)).trans rfl)))
                          have q251 : (gV τ238 12 0 4).toInt = (gV τ198 12 0 4).toInt := congrArg Int32.toInt (show (gV τ238 12 0 4) = (gV τ198 12 0 4) from (show gV τ238 12 0 4 = (gV τ198 12 0 4) from (f240.1 12 0 (4) (by decide) (by decide)).trans (show gV τ220 12 0 4 = (gV τ198 12 0 4) from (f222.1 12 0 (4) (by decide) (by decide)).trans rfl)))
                          have q252 : (gV τ238 12 0 5).toInt = (gV τ198 12 0 5).toInt := congrArg Int32.toInt (show (gV τ238 12 0 5) = (gV τ198 12 0 5) from (show gV τ238 12 0 5 = (gV τ198 12 0 5) from (f240.1 12 0 (5) (by decide) (by decide)).trans (show gV τ220 12 0 5 = (gV τ198 12 0 5) from (f222.1 12 0 (5) (by decide) (by decide)).trans rfl)))
                          have q253 : (gV τ238 12 0 6).toInt = (gV τ198 12 0 6).toInt := congrArg Int32.toInt (show (gV τ238 12 0 6) = (gV τ198 12 0 6) from (show gV τ238 12 0 6 = (gV τ198 12 0 6) from (f240.1 12 0 (6) (by decide) (by decide)).trans (show gV τ220 12 0 6 = (gV τ198 12 0 6) from (f222.1 12 0 (6) (by decide) (by decide)).trans rfl)))
                          have q254 : (gV τ238 12 0 7).toInt = (gV τ198 12 0 7).toInt := congrArg Int32.toInt (show (gV τ238 12 0 7) = (gV τ198 12 0 7) from (show gV τ238 12 0 7 = (gV τ198 12 0 7) from (f240.1 12 0 (7) (by decide) (by decide)).trans (show gV τ220 12 0 7 = (gV τ198 12 0 7) from (f222.1 12 0 (7) (by decide) (by decide)).trans rfl)))
                          show MW p l e _ s m args below meth c _ 7 G 1 3 150 [some (.ref (G.1 12 0)), some (.ref (G.1 1 j2)), some (.int x24), some (.int x59), some (.int x83), some (.int 0), some (.int x201)] [] τ238
                          refine m_aload_n C dX6_readPerson_150 rfl rfl ?_
                          refine m_callV (n := 0) (ci := 5) (st := []) C (c_X6_passSemicolonE l G τ238 T N (tE T N (tE T N (tE T N (tE T N (tE T N i)))))  i239 v245 (by omega)) (by decide) (by decide) rfl rfl rfl q2_149 q2_146 q2_148 q0_10 q1_2 (by decide +kernel) rfl (by decide) (by decide) rfl (Nat.le_of_ble_eq_true rfl) dX6_readPerson_151 ?_
                          rintro _ τ255 ⟨x258, rfl, i256, f257, b259, h261⟩
                          have g260 : Fr MS_X6_readPersonE AS_X6_readPersonE σ τ255 := Fr.call (g243) f257 (by decide)
                          clear h204_5
                          have v262 : TpC τ255 T N := v245.fr f257 (by decide) (by decide) (by simp) (by decide)
                          have v263 : x223q ∈ τ255.2.2.2.1 := by rw [f257.2.2 (by decide)]; exact v246
                          have u264 : IV (gV τ255 12 0 4) 0 400 := i256.1 12 0 4
                          have u265 : IV (gV τ255 12 0 5) 0 400 := i256.1 12 0 5
                          have q266 : (gV τ255 1 j2 0).toInt = (gV σ 1 j2 0).toInt := congrArg Int32.toInt (show (gV τ255 1 j2 0) = (gV σ 1 j2 0) from (show gV τ255 1 j2 0 = (gV σ 1 j2 0) from (f257.1 1 j2 (0) (by decide) (by decide)).trans (show gV τ238 1 j2 0 = (gV σ 1 j2 0) from (f240.1 1 j2 (0) (by decide) (by decide)).trans (show gV τ220 1 j2 0 = (gV σ 1 j2 0) from (f222.1 1 j2 (0) (by decide) (by decide)).trans (show gV τ198 1 j2 0 = (gV σ 1 j2 0) from (f200.1 1 j2 (0) (by decide) (by decide)).trans (show gV τ80 1 j2 0 = (gV σ 1 j2 0) from (f82.1 1 j2 (0) (by decide) (by decide)).trans (show gV τ56 1 j2 0 = (gV σ 1 j2 0) from (f58.1 1 j2 (0) (by decide) (by decide)).trans (show gV τ40 1 j2 0 = (gV σ 1 j2 0) from (f42.1 1 j2 (0) (by decide) (by decide)).trans (show gV τ21 1 j2 0 = (gV σ 1 j2 0) from (f23.1 1 j2 (0) (by decide) (by decide)).trans (show gV τ7 1 j2 0 = (gV σ 1 j2 0) from (f9.1 1 j2 (0) (by decide) (by decide)).trans rfl))))))))))
                          have q267 : (gV τ255 1 j2 2).toInt = (gV τ238 1 j2 2).toInt := congrArg Int32.toInt (show (gV τ255 1 j2 2) = (gV τ238 1 j2 2) from (show gV τ255 1 j2 2 = (gV τ238 1 j2 2) from (f257.1 1 j2 (2) (by decide) (by decide)).trans rfl))
                          rcases h261 with ⟨h261_0, h261_1, h261_2, h261_3⟩ | ⟨h261_0, h261_1, h261_2, h261_3⟩
                          · skip
                            have b268 : IV x258 0 0 := ⟨by omega, by omega⟩
                            show MW p l e _ s m args below meth c _ 7 G 1 3 154 [some (.ref (G.1 12 0)), some (.ref (G.1 1 j2)), some (.int x24), some (.int x59), some (.int x83), some (.int 0), some (.int x201)] [.int x258] τ255
                            exact m_zret C hr (nar_z (iv_wk b268 (by decide))) hlk (by decide) (by decide) dX6_readPerson_154 ⟨_, rfl, i256, g260, (iv_wk b268 (by decide)), (by have qd := per_8 T N st cc i (by omega) (by omega) (by omega) (by omega) (by omega) (by omega) (by omega) (by omega) (by omega); refine Or.inl ⟨by omega, by omega, by omega, by omega⟩)⟩
                          · skip
                            have b269 : IV x258 1 1 := ⟨by omega, by omega⟩
                            show MW p l e _ s m args below meth c _ 7 G 1 3 154 [some (.ref (G.1 12 0)), some (.ref (G.1 1 j2)), some (.int x24), some (.int x59), some (.int x83), some (.int 0), some (.int x201)] [.int x258] τ255
                            exact m_zret C hr (nar_z (iv_wk b269 (by decide))) hlk (by decide) (by decide) dX6_readPerson_154 ⟨_, rfl, i256, g260, (iv_wk b269 (by decide)), (by have qd := per_ok T N st cc i (by omega) (by omega) (by omega) (by omega) (by omega) (by omega) (by omega) (by omega) (by omega); refine Or.inr ⟨by omega, by omega, by omega, by omega, by omega⟩)⟩
                        · first | exact absurd c236 (by decide) | exact absurd (by decide) c236
                      · have f271 : x201.toInt = -1 := by
                          have q : _ := c218
                          simp only [ti_nle, ti_nlt, ti_le, ti_lt, ti_eq, ti_ne, Classical.not_not, kt_m1] at q
                          omega
                        have b272 : IV x201 (-1) (-1) := ⟨by have q1 := b202; have q2 := kc_m1; omega, by have q1 := b202; have q2 := kc_m1; omega⟩
                        refine m_iconst (v := 0) C dX6_readPerson_122 (by decide) ?_
                        exact m_zret C hr rfl hlk (by decide) (by decide) dX6_readPerson_123 ⟨_, rfl, i199, g203, (iv_wk kc_0 (by decide)), (by have qd := per_ok T N st cc i (by omega) (by omega) (by omega) (by omega) (by omega) (by omega) (by omega) (by omega) (by omega); have qk := kt_0; refine Or.inl ⟨by omega, by omega, by omega, by omega⟩)⟩
                  · first | exact absurd c191 (by decide) | exact absurd (by decide) c191
                · have f274 : (gV τ80 12 0 7).toInt = 99 := by
                    have q : _ := c189
                    simp only [ti_nle, ti_nlt, ti_le, ti_lt, ti_eq, ti_ne, Classical.not_not, kt_99] at q
                    omega
                  have b275 : IV (gV τ80 12 0 7) 99 99 := ⟨by have q1 := (iv_any (gV τ80 12 0 7)); have q2 := kc_99; omega, by have q1 := (iv_any (gV τ80 12 0 7)); have q2 := kc_99; omega⟩
                  refine m_iconst (v := 1) C dX6_readPerson_86 (by decide) ?_
                  refine m_goto (tgt := 91) C dX6_readPerson_87 (by decide) ?_
                  refine m_istore (L1 := [some (.ref (G.1 12 0)), some (.ref (G.1 1 j2)), some (.int x24), some (.int x59), some (.int x83), some (.int 1), none]) C dX6_readPerson_91 (by decide) rfl rfl ?_
                  refine m_aload_n C dX6_readPerson_93 rfl rfl ?_
                  refine m_iconst (v := 0) C dX6_readPerson_94 (by decide) ?_
                  refine m_iload C dX6_readPerson_95 rfl ?_
                  refine m_if_eq (tgt := 105) C dX6_readPerson_97 (by decide) (fun c276 => ?_) (fun c276 => ?_)
                  · first | exact absurd c276 (by decide) | exact absurd (by decide) c276
                  · have f278 : 1 ≠ 0 := by
                      have q : _ := c276
                      simp only [ti_nle, ti_nlt, ti_le, ti_lt, ti_eq, ti_ne, Classical.not_not, kt_1, kt_0] at q
                      omega
                    have q279 : tK T N (tE T N (tE T N (tE T N (tE T N i)))) = 2 ∧ tV T (tE T N (tE T N (tE T N (tE T N i)))) = 99 := by omega
                    refine m_bipush (v := 99) C dX6_readPerson_100 (by decide) ?_
                    refine m_goto (tgt := 111) C dX6_readPerson_102 (by decide) ?_
                    have q280 := kt_0
                    have q281 := kt_99
                    refine m_callV (n := 2) (ci := 5) (st := []) C (c_X6_numberE l G τ80 T N (tE T N (tE T N (tE T N (tE T N i)))) (0) (99) i81 v87 (by omega)) (by decide) (by decide) rfl rfl rfl q2_145 q2_142 q2_144 q0_9 q1_2 (by decide +kernel) rfl (by decide) (by decide) rfl (Nat.le_of_ble_eq_true rfl) dX6_readPerson_111 ?_
                    rintro _ τ282 ⟨x285, rfl, i283, f284, b286, h288⟩
                    have g287 : Fr MS_X6_readPersonE AS_X6_readPersonE σ τ282 := Fr.call (g85) f284 (by decide)
                    clear h86_5
                    have v289 : TpC τ282 T N := v87.fr f284 (by decide) (by decide) (by simp) (by decide)
                    have u290 : IV (gV τ282 12 0 4) 0 400 := i283.1 12 0 4
                    have u291 : IV (gV τ282 12 0 5) 0 400 := i283.1 12 0 5
                    have q292 : (gV τ282 1 j2 0).toInt = (gV σ 1 j2 0).toInt := congrArg Int32.toInt (show (gV τ282 1 j2 0) = (gV σ 1 j2 0) from (show gV τ282 1 j2 0 = (gV σ 1 j2 0) from (f284.1 1 j2 (0) (by decide) (by decide)).trans (show gV τ80 1 j2 0 = (gV σ 1 j2 0) from (f82.1 1 j2 (0) (by decide) (by decide)).trans (show gV τ56 1 j2 0 = (gV σ 1 j2 0) from (f58.1 1 j2 (0) (by decide) (by decide)).trans (show gV τ40 1 j2 0 = (gV σ 1 j2 0) from (f42.1 1 j2 (0) (by decide) (by decide)).trans (show gV τ21 1 j2 0 = (gV σ 1 j2 0) from (f23.1 1 j2 (0) (by decide) (by decide)).trans (show gV τ7 1 j2 0 = (gV σ 1 j2 0) from (f9.1 1 j2 (0) (by decide) (by decide)).trans rfl)))))))
                    have q293 : (gV τ282 1 j2 2).toInt = (gV σ 1 j2 2).toInt := congrArg Int32.toInt (show (gV τ282 1 j2 2) = (gV σ 1 j2 2) from (show gV τ282 1 j2 2 = (gV σ 1 j2 2) from (f284.1 1 j2 (2) (by decide) (by decide)).trans (show gV τ80 1 j2 2 = (gV σ 1 j2 2) from (f82.1 1 j2 (2) (by decide) (by decide)).trans (show gV τ56 1 j2 2 = (gV σ 1 j2 2) from (f58.1 1 j2 (2) (by decide) (by decide)).trans (show gV τ40 1 j2 2 = (gV σ 1 j2 2) from (f42.1 1 j2 (2) (by decide) (by decide)).trans (show gV τ21 1 j2 2 = (gV σ 1 j2 2) from (f23.1 1 j2 (2) (by decide) (by decide)).trans (show gV τ7 1 j2 2 = (gV σ 1 j2 2) from (f9.1 1 j2 (2) (by decide) (by decide)).trans rfl)))))))
                    rcases h288 with ⟨h288_0, h288_1, h288_2, h288_3⟩ | ⟨h288_0, h288_1, h288_2, h288_3, h288_4⟩ | ⟨h288_0, h288_1, h288_2, h288_3, h288_4, h288_5⟩
                    · skip
                      have b294 : IV x285 (-1) (-1) := ⟨by omega, by omega⟩
                      show MW p l e _ s m args below meth c _ 7 G 0 0 114 [some (.ref (G.1 12 0)), some (.ref (G.1 1 j2)), some (.int x24), some (.int x59), some (.int x83), some (.int 1), none] [.int x285] τ282
                      refine m_istore (L1 := [some (.ref (G.1 12 0)), some (.ref (G.1 1 j2)), some (.int x24), some (.int x59), some (.int x83), some (.int 1), some (.int x285)]) C dX6_readPerson_114 (by decide) rfl rfl ?_
                      refine m_iload C dX6_readPerson_116 rfl ?_
                      refine m_iconst (v := (-1)) C dX6_readPerson_118 (by decide) ?_
                      refine m_icmp_ne (tgt := 124) C dX6_readPerson_119 (by decide) (fun c295 => ?_) (fun c295 => ?_)
                      · exfalso
                        have q : _ := c295
                        simp only [ti_nle, ti_nlt, ti_le, ti_lt, ti_eq, ti_ne, Classical.not_not, kt_m1] at q
                        have q1 := b294; have q2 := kc_m1; omega
                      · have f297 : x285.toInt = -1 := by
                          have q : _ := c295
                          simp only [ti_nle, ti_nlt, ti_le, ti_lt, ti_eq, ti_ne, Classical.not_not, kt_m1] at q
                          omega
                        refine m_iconst (v := 0) C dX6_readPerson_122 (by decide) ?_
                        exact m_zret C hr rfl hlk (by decide) (by decide) dX6_readPerson_123 ⟨_, rfl, i283, g287, (iv_wk kc_0 (by decide)), (by have qd := per_6 T N st cc i (by omega) (by omega) (by omega) (by omega) (by omega) (by omega) (by omega); have qk := kt_0; refine Or.inl ⟨by omega, by omega, by omega, by omega⟩)⟩
                    · skip
                      have b298 : IV x285 (-1) (-1) := ⟨by omega, by omega⟩
                      show MW p l e _ s m args below meth c _ 7 G 0 0 114 [some (.ref (G.1 12 0)), some (.ref (G.1 1 j2)), some (.int x24), some (.int x59), some (.int x83), some (.int 1), none] [.int x285] τ282
                      refine m_istore (L1 := [some (.ref (G.1 12 0)), some (.ref (G.1 1 j2)), some (.int x24), some (.int x59), some (.int x83), some (.int 1), some (.int x285)]) C dX6_readPerson_114 (by decide) rfl rfl ?_
                      refine m_iload C dX6_readPerson_116 rfl ?_
                      refine m_iconst (v := (-1)) C dX6_readPerson_118 (by decide) ?_
                      refine m_icmp_ne (tgt := 124) C dX6_readPerson_119 (by decide) (fun c299 => ?_) (fun c299 => ?_)
                      · exfalso
                        have q : _ := c299
                        simp only [ti_nle, ti_nlt, ti_le, ti_lt, ti_eq, ti_ne, Classical.not_not, kt_m1] at q
                        have q1 := b298; have q2 := kc_m1; omega
                      · have f301 : x285.toInt = -1 := by
                          have q : _ := c299
                          simp only [ti_nle, ti_nlt, ti_le, ti_lt, ti_eq, ti_ne, Classical.not_not, kt_m1] at q
                          omega
                        refine m_iconst (v := 0) C dX6_readPerson_122 (by decide) ?_
                        exact m_zret C hr rfl hlk (by decide) (by decide) dX6_readPerson_123 ⟨_, rfl, i283, g287, (iv_wk kc_0 (by decide)), (by have qd := per_7 T N st cc i (by omega) (by omega) (by omega) (by omega) (by omega) (by omega) (by omega) (by omega); have qk := kt_0; refine Or.inl ⟨by omega, by omega, by omega, by omega⟩)⟩
                    · skip
                      show MW p l e _ s m args below meth c _ 7 G 0 0 114 [some (.ref (G.1 12 0)), some (.ref (G.1 1 j2)), some (.int x24), some (.int x59), some (.int x83), some (.int 1), none] [.int x285] τ282
                      refine m_istore (L1 := [some (.ref (G.1 12 0)), some (.ref (G.1 1 j2)), some (.int x24), some (.int x59), some (.int x83), some (.int 1), some (.int x285)]) C dX6_readPerson_114 (by decide) rfl rfl ?_
                      refine m_iload C dX6_readPerson_116 rfl ?_
                      refine m_iconst (v := (-1)) C dX6_readPerson_118 (by decide) ?_
                      refine m_icmp_ne (tgt := 124) C dX6_readPerson_119 (by decide) (fun c302 => ?_) (fun c302 => ?_)
                      · have f303 : x285.toInt ≠ -1 := by
                          have q : _ := c302
                          simp only [ti_nle, ti_nlt, ti_le, ti_lt, ti_eq, ti_ne, Classical.not_not, kt_m1] at q
                          omega
                        refine m_aload_n C dX6_readPerson_124 rfl rfl ?_
                        refine m_iload_n C dX6_readPerson_125 rfl rfl ?_
                        refine m_aload_n C dX6_readPerson_126 rfl rfl ?_
                        refine g_1_2 C hj2 q1_81 dX6_readPerson_127 ?_
                        refine m_eqs (w := (gV σ 1 j2 2)) (show gV τ282 1 j2 2 = (gV σ 1 j2 2) from (f284.1 1 j2 (2) (by decide) (by decide)).trans (show gV τ80 1 j2 2 = (gV σ 1 j2 2) from (f82.1 1 j2 (2) (by decide) (by decide)).trans (show gV τ56 1 j2 2 = (gV σ 1 j2 2) from (f58.1 1 j2 (2) (by decide) (by decide)).trans (show gV τ40 1 j2 2 = (gV σ 1 j2 2) from (f42.1 1 j2 (2) (by decide) (by decide)).trans (show gV τ21 1 j2 2 = (gV σ 1 j2 2) from (f23.1 1 j2 (2) (by decide) (by decide)).trans (show gV τ7 1 j2 2 = (gV σ 1 j2 2) from (f9.1 1 j2 (2) (by decide) (by decide)).trans rfl)))))) ?_
                        refine m_iload_n C dX6_readPerson_130 rfl rfl ?_
                        refine m_iload C dX6_readPerson_131 rfl ?_
                        refine m_callS (n := 4) (st := [.ref (G.1 1 j2)]) C (c_X6_newPerson l G τ282 (x24) ((gV σ 1 j2 2)) (x59) (x83) i283 ) q2_166 q2_164 q2_165 q1_2 (by decide +kernel) rfl (by decide) (by decide) rfl (Nat.le_of_ble_eq_true rfl) dX6_readPerson_133 ?_
                        rintro _ τ304 ⟨x307, rfl, i305, f306, h310⟩
                        have g309 : Fr MS_X6_readPersonE AS_X6_readPersonE σ τ304 := Fr.call (g287) f306 (by decide)
                        have v311 : TpC τ304 T N := v289.fr f306 (by decide) (by decide) (by simp) (by decide)
                        have q312 : (gV τ304 1 j2 0).toInt = (gV σ 1 j2 0).toInt := congrArg Int32.toInt (show (gV τ304 1 j2 0) = (gV σ 1 j2 0) from (show gV τ304 1 j2 0 = (gV σ 1 j2 0) from (f306.1 1 j2 (0) (by decide) (by decide)).trans (show gV τ282 1 j2 0 = (gV σ 1 j2 0) from (f284.1 1 j2 (0) (by decide) (by decide)).trans (show gV τ80 1 j2 0 = (gV σ 1 j2 0) from (f82.1 1 j2 (0) (by decide) (by decide)).trans (show gV τ56 1 j2 0 = (gV σ 1 j2 0) from (f58.1 1 j2 (0) (by decide) (by decide)).trans (show gV τ40 1 j2 0 = (gV σ 1 j2 0) from (f42.1 1 j2 (0) (by decide) (by decide)).trans (show gV τ21 1 j2 0 = (gV σ 1 j2 0) from (f23.1 1 j2 (0) (by decide) (by decide)).trans (show gV τ7 1 j2 0 = (gV σ 1 j2 0) from (f9.1 1 j2 (0) (by decide) (by decide)).trans rfl))))))))
                        have q313 : (gV τ304 1 j2 2).toInt = (gV σ 1 j2 2).toInt := congrArg Int32.toInt (show (gV τ304 1 j2 2) = (gV σ 1 j2 2) from (show gV τ304 1 j2 2 = (gV σ 1 j2 2) from (f306.1 1 j2 (2) (by decide) (by decide)).trans (show gV τ282 1 j2 2 = (gV σ 1 j2 2) from (f284.1 1 j2 (2) (by decide) (by decide)).trans (show gV τ80 1 j2 2 = (gV σ 1 j2 2) from (f82.1 1 j2 (2) (by decide) (by decide)).trans (show gV τ56 1 j2 2 = (gV σ 1 j2 2) from (f58.1 1 j2 (2) (by decide) (by decide)).trans (show gV τ40 1 j2 2 = (gV σ 1 j2 2) from (f42.1 1 j2 (2) (by decide) (by decide)).trans (show gV τ21 1 j2 2 = (gV σ 1 j2 2) from (f23.1 1 j2 (2) (by decide) (by decide)).trans (show gV τ7 1 j2 2 = (gV σ 1 j2 2) from (f9.1 1 j2 (2) (by decide) (by decide)).trans rfl))))))))
                        have q314 : (gV τ304 12 0 2).toInt = (gV τ282 12 0 2).toInt := congrArg Int32.toInt (show (gV τ304 12 0 2) = (gV τ282 12 0 2) from (show gV τ304 12 0 2 = (gV τ282 12 0 2) from (f306.1 12 0 (2) (by decide) (by decide)).trans rfl))
                        have q315 : (gV τ304 12 0 3).toInt = (gV τ282 12 0 3).toInt := congrArg Int32.toInt (show (gV τ304 12 0 3) = (gV τ282 12 0 3) from (show gV τ304 12 0 3 = (gV τ282 12 0 3) from (f306.1 12 0 (3) (by decide) (by decide)).trans rfl))
                        have q316 : (gV τ304 12 0 4).toInt = (gV τ282 12 0 4).toInt := congrArg Int32.toInt (show (gV τ304 12 0 4) = (gV τ282 12 0 4) from (show gV τ304 12 0 4 = (gV τ282 12 0 4) from (f306.1 12 0 (4) (by decide) (by decide)).trans rfl))
                        have q317 : (gV τ304 12 0 5).toInt = (gV τ282 12 0 5).toInt := congrArg Int32.toInt (show (gV τ304 12 0 5) = (gV τ282 12 0 5) from (show gV τ304 12 0 5 = (gV τ282 12 0 5) from (f306.1 12 0 (5) (by decide) (by decide)).trans rfl))
                        have q318 : (gV τ304 12 0 6).toInt = (gV τ282 12 0 6).toInt := congrArg Int32.toInt (show (gV τ304 12 0 6) = (gV τ282 12 0 6) from (show gV τ304 12 0 6 = (gV τ282 12 0 6) from (f306.1 12 0 (6) (by decide) (by decide)).trans rfl))
                        have q319 : (gV τ304 12 0 7).toInt = (gV τ282 12 0 7).toInt := congrArg Int32.toInt (show (gV τ304 12 0 7) = (gV τ282 12 0 7) from (show gV τ304 12 0 7 = (gV τ282 12 0 7) from (f306.1 12 0 (7) (by decide) (by decide)).trans rfl))
                        obtain ⟨x307q, rfl, x307m⟩ := h310
                        show MW p l e _ s m args below meth c _ 7 G 1 3 136 [some (.ref (G.1 12 0)), some (.ref (G.1 1 j2)), some (.int x24), some (.int x59), some (.int x83), some (.int 1), some (.int x285)] [.ref x307q, .ref (G.1 1 j2)] τ304
                        refine m_iload C dX6_readPerson_136 rfl ?_
                        refine m_if_eq (tgt := 145) C dX6_readPerson_138 (by decide) (fun c320 => ?_) (fun c320 => ?_)
                        · first | exact absurd c320 (by decide) | exact absurd (by decide) c320
                        · have f322 : 1 ≠ 0 := by
                            have q : _ := c320
                            simp only [ti_nle, ti_nlt, ti_le, ti_lt, ti_eq, ti_ne, Classical.not_not, kt_1, kt_0] at q
                            omega
                          refine m_iconst (v := (-1)) C dX6_readPerson_141 (by decide) ?_
                          refine m_goto (tgt := 147) C dX6_readPerson_142 (by decide) ?_
                          have q323 := kt_m1
                          refine m_callV (n := 2) (ci := 7) (st := []) C (c_X8_addPersonE l G τ304 (j := j2) hj2 x307q ((-1)) i305 x307m) (by decide) hj2 rfl rfl rfl q2_235 q2_232 q2_233 q2_234 q1_3 (by decide +kernel) rfl (by decide) (by decide) rfl (Nat.le_of_ble_eq_true rfl) dX6_readPerson_147 ?_
                          rintro _ τ324 ⟨rfl, i325, f326, h330⟩
                          have g329 : Fr MS_X6_readPersonE AS_X6_readPersonE σ τ324 := Fr.call (g309) f326 (by decide)
                          have v331 : TpC τ324 T N := v311.fr f326 (by decide) (by decide) (by simp) (by decide)
                          have v332 : x307q ∈ τ324.2.2.2.1 := by rw [f326.2.2 (by decide)]; exact x307m
                          have u333 : IV (gV τ324 1 j2 2) 0 7 := i325.1 1 j2 2
                          have q334 : (gV τ324 1 j2 0).toInt = (gV σ 1 j2 0).toInt := congrArg Int32.toInt (show (gV τ324 1 j2 0) = (gV σ 1 j2 0) from (show gV τ324 1 j2 0 = (gV σ 1 j2 0) from (f326.1 1 j2 (0) (by decide) (by decide)).trans (show gV τ304 1 j2 0 = (gV σ 1 j2 0) from (f306.1 1 j2 (0) (by decide) (by decide)).trans (show gV τ282 1 j2 0 = (gV σ 1 j2 0) from (f284.1 1 j2 (0) (by decide) (by decide)).trans (show gV τ80 1 j2 0 = (gV σ 1 j2 0) from (f82.1 1 j2 (0) (by decide) (by decide)).trans (show gV τ56 1 j2 0 = (gV σ 1 j2 0) from (f58.1 1 j2 (0) (by decide) (by decide)).trans (show gV τ40 1 j2 0 = (gV σ 1 j2 0) from (f42.1 1 j2 (0) (by decide) (by decide)).trans (show gV τ21 1 j2 0 = (gV σ 1 j2 0) from (f23.1 1 j2 (0) (by decide) (by decide)).trans (show gV τ7 1 j2 0 = (gV σ 1 j2 0) from (f9.1 1 j2 (0) (by decide) (by decide)).trans rfl)))))))))
                          have q335 : (gV τ324 12 0 2).toInt = (gV τ282 12 0 2).toInt := congrArg Int32.toInt (show (gV τ324 12 0 2) = (gV τ282 12 0 2) from (show gV τ324 12 0 2 = (gV τ282 12 0 2) from (f326.1 12 0 (2) (by decide) (by decide)).trans (show gV τ304 12 0 2 = (gV τ282 12 0 2) from (f306.1 12 0 (2) (by decide) (by decide)).trans rfl)))
                          have q336 : (gV τ324 12 0 3).toInt = (gV τ282 12 0 3).toInt := congrArg Int32.toInt (show (gV τ324 12 0 3) = (gV τ282 12 0 3) from (show gV τ324 12 0 3 = (gV τ282 12 0 3) from (f326.1 12 0 (3) (by decide) (by decide)).trans (show gV τ304 12 0 3 = (gV τ282 12 0 3) from (f306.1 12 0 (3) (by decide) (by decide)).trans rfl)))
                          have q337 : (gV τ324 12 0 4).toInt = (gV τ282 12 0 4).toInt := congrArg Int32.toInt (show (gV τ324 12 0 4) = (gV τ282 12 0 4) from (show gV τ324 12 0 4 = (gV τ282 12 0 4) from (f326.1 12 0 (4) (by decide) (by decide)).trans (show gV τ304 12 0 4 = (gV τ282 12 0 4) from (f306.1 12 0 (4) (by decide) (by decide)).trans rfl)))
                          have q338 : (gV τ324 12 0 5).toInt = (gV τ282 12 0 5).toInt := congrArg Int32.toInt (show (gV τ324 12 0 5) = (gV τ282 12 0 5) from (show gV τ324 12 0 5 = (gV τ282 12 0 5) from (f326.1 12 0 (5) (by decide) (by decide)).trans (show gV τ304 12 0 5 = (gV τ282 12 0 5) from (f306.1 12 0 (5) (by decide) (by decide)).trans rfl)))
                          have q339 : (gV τ324 12 0 6).toInt = (gV τ282 12 0 6).toInt := congrArg Int32.toInt (show (gV τ324 12 0 6) = (gV τ282 12 0 6) from (show gV τ324 12 0 6 = (gV τ282 12 0 6) from (f326.1 12 0 (6) (by decide) (by decide)).trans (show gV τ304 12 0 6 = (gV τ282 12 0 6) from (f306.1 12 0 (6) (by decide) (by decide)).trans rfl)))
                          have q340 : (gV τ324 12 0 7).toInt = (gV τ282 12 0 7).toInt := congrArg Int32.toInt (show (gV τ324 12 0 7) = (gV τ282 12 0 7) from (show gV τ324 12 0 7 = (gV τ282 12 0 7) from (f326.1 12 0 (7) (by decide) (by decide)).trans (show gV τ304 12 0 7 = (gV τ282 12 0 7) from (f306.1 12 0 (7) (by decide) (by decide)).trans rfl)))
                          show MW p l e _ s m args below meth c _ 7 G 1 3 150 [some (.ref (G.1 12 0)), some (.ref (G.1 1 j2)), some (.int x24), some (.int x59), some (.int x83), some (.int 1), some (.int x285)] [] τ324
                          refine m_aload_n C dX6_readPerson_150 rfl rfl ?_
                          refine m_callV (n := 0) (ci := 5) (st := []) C (c_X6_passSemicolonE l G τ324 T N (tE T N (tE T N (tE T N (tE T N (tE T N i)))))  i325 v331 (by omega)) (by decide) (by decide) rfl rfl rfl q2_149 q2_146 q2_148 q0_10 q1_2 (by decide +kernel) rfl (by decide) (by decide) rfl (Nat.le_of_ble_eq_true rfl) dX6_readPerson_151 ?_
                          rintro _ τ341 ⟨x344, rfl, i342, f343, b345, h347⟩
                          have g346 : Fr MS_X6_readPersonE AS_X6_readPersonE σ τ341 := Fr.call (g329) f343 (by decide)
                          clear h288_5
                          have v348 : TpC τ341 T N := v331.fr f343 (by decide) (by decide) (by simp) (by decide)
                          have v349 : x307q ∈ τ341.2.2.2.1 := by rw [f343.2.2 (by decide)]; exact v332
                          have u350 : IV (gV τ341 12 0 4) 0 400 := i342.1 12 0 4
                          have u351 : IV (gV τ341 12 0 5) 0 400 := i342.1 12 0 5
                          have q352 : (gV τ341 1 j2 0).toInt = (gV σ 1 j2 0).toInt := congrArg Int32.toInt (show (gV τ341 1 j2 0) = (gV σ 1 j2 0) from (show gV τ341 1 j2 0 = (gV σ 1 j2 0) from (f343.1 1 j2 (0) (by decide) (by decide)).trans (show gV τ324 1 j2 0 = (gV σ 1 j2 0) from (f326.1 1 j2 (0) (by decide) (by decide)).trans (show gV τ304 1 j2 0 = (gV σ 1 j2 0) from (f306.1 1 j2 (0) (by decide) (by decide)).trans (show gV τ282 1 j2 0 = (gV σ 1 j2 0) from (f284.1 1 j2 (0) (by decide) (by decide)).trans (show gV τ80 1 j2 0 = (gV σ 1 j2 0) from (f82.1 1 j2 (0) (by decide) (by decide)).trans (show gV τ56 1 j2 0 = (gV σ 1 j2 0) from (f58.1 1 j2 (0) (by decide) (by decide)).trans (show gV τ40 1 j2 0 = (gV σ 1 j2 0) from (f42.1 1 j2 (0) (by decide) (by decide)).trans (show gV τ21 1 j2 0 = (gV σ 1 j2 0) from (f23.1 1 j2 (0) (by decide) (by decide)).trans (show gV τ7 1 j2 0 = (gV σ 1 j2 0) from (f9.1 1 j2 (0) (by decide) (by decide)).trans rfl))))))))))
                          have q353 : (gV τ341 1 j2 2).toInt = (gV τ324 1 j2 2).toInt := congrArg Int32.toInt (show (gV τ341 1 j2 2) = (gV τ324 1 j2 2) from (show gV τ341 1 j2 2 = (gV τ324 1 j2 2) from (f343.1 1 j2 (2) (by decide) (by decide)).trans rfl))
                          rcases h347 with ⟨h347_0, h347_1, h347_2, h347_3⟩ | ⟨h347_0, h347_1, h347_2, h347_3⟩
                          · skip
                            have b354 : IV x344 0 0 := ⟨by omega, by omega⟩
                            show MW p l e _ s m args below meth c _ 7 G 1 3 154 [some (.ref (G.1 12 0)), some (.ref (G.1 1 j2)), some (.int x24), some (.int x59), some (.int x83), some (.int 1), some (.int x285)] [.int x344] τ341
                            exact m_zret C hr (nar_z (iv_wk b354 (by decide))) hlk (by decide) (by decide) dX6_readPerson_154 ⟨_, rfl, i342, g346, (iv_wk b354 (by decide)), (by have qd := per_8 T N st cc i (by omega) (by omega) (by omega) (by omega) (by omega) (by omega) (by omega) (by omega) (by omega); refine Or.inl ⟨by omega, by omega, by omega, by omega⟩)⟩
                          · skip
                            have b355 : IV x344 1 1 := ⟨by omega, by omega⟩
                            show MW p l e _ s m args below meth c _ 7 G 1 3 154 [some (.ref (G.1 12 0)), some (.ref (G.1 1 j2)), some (.int x24), some (.int x59), some (.int x83), some (.int 1), some (.int x285)] [.int x344] τ341
                            exact m_zret C hr (nar_z (iv_wk b355 (by decide))) hlk (by decide) (by decide) dX6_readPerson_154 ⟨_, rfl, i342, g346, (iv_wk b355 (by decide)), (by have qd := per_ok T N st cc i (by omega) (by omega) (by omega) (by omega) (by omega) (by omega) (by omega) (by omega) (by omega); refine Or.inr ⟨by omega, by omega, by omega, by omega, by omega⟩)⟩
                      · have f356 : x285.toInt = -1 := by
                          have q : _ := c302
                          simp only [ti_nle, ti_nlt, ti_le, ti_lt, ti_eq, ti_ne, Classical.not_not, kt_m1] at q
                          omega
                        have b357 : IV x285 (-1) (-1) := ⟨by have q1 := b286; have q2 := kc_m1; omega, by have q1 := b286; have q2 := kc_m1; omega⟩
                        refine m_iconst (v := 0) C dX6_readPerson_122 (by decide) ?_
                        exact m_zret C hr rfl hlk (by decide) (by decide) dX6_readPerson_123 ⟨_, rfl, i283, g287, (iv_wk kc_0 (by decide)), (by have qd := per_ok T N st cc i (by omega) (by omega) (by omega) (by omega) (by omega) (by omega) (by omega) (by omega) (by omega); have qk := kt_0; refine Or.inl ⟨by omega, by omega, by omega, by omega⟩)⟩
            · have f358 : x83.toInt = -1 := by
                have q : _ := c100
                simp only [ti_nle, ti_nlt, ti_le, ti_lt, ti_eq, ti_ne, Classical.not_not, kt_m1] at q
                omega
              have b359 : IV x83 (-1) (-1) := ⟨by have q1 := b84; have q2 := kc_m1; omega, by have q1 := b84; have q2 := kc_m1; omega⟩
              refine m_iconst (v := 0) C dX6_readPerson_67 (by decide) ?_
              exact m_zret C hr rfl hlk (by decide) (by decide) dX6_readPerson_68 ⟨_, rfl, i81, g85, (iv_wk kc_0 (by decide)), (by have qd := per_ok T N st cc i (by omega) (by omega) (by omega) (by omega) (by omega) (by omega) (by omega) (by omega) (by omega); have qk := kt_0; refine Or.inl ⟨by omega, by omega, by omega, by omega⟩)⟩
        · have f360 : x59.toInt = -1 := by
            have q : _ := c76
            simp only [ti_nle, ti_nlt, ti_le, ti_lt, ti_eq, ti_ne, Classical.not_not, kt_m1] at q
            omega
          have b361 : IV x59 (-1) (-1) := ⟨by have q1 := b60; have q2 := kc_m1; omega, by have q1 := b60; have q2 := kc_m1; omega⟩
          refine m_iconst (v := 0) C dX6_readPerson_51 (by decide) ?_
          exact m_zret C hr rfl hlk (by decide) (by decide) dX6_readPerson_52 ⟨_, rfl, i57, g61, (iv_wk kc_0 (by decide)), (by have qd := per_ok T N st cc i (by omega) (by omega) (by omega) (by omega) (by omega) (by omega) (by omega) (by omega) (by omega); have qk := kt_0; refine Or.inl ⟨by omega, by omega, by omega, by omega⟩)⟩
    · have f362 : x24.toInt = 0 := by
        have q : _ := c37
        simp only [ti_nle, ti_nlt, ti_le, ti_lt, ti_eq, ti_ne, Classical.not_not, kt_0] at q
        omega
      have b363 : IV x24 0 0 := ⟨by have q1 := b25; have q2 := kc_0; omega, by have q1 := b25; have q2 := kc_0; omega⟩
      refine m_aload_n C dX6_readPerson_28 rfl rfl ?_
      refine m_iconst (v := 1) C dX6_readPerson_29 (by decide) ?_
      have q364 := kt_1
      refine m_callV (n := 1) (ci := 5) (st := []) C (c_X6_refuseE l G τ21 (1) i22 ) (by decide) (by decide) rfl rfl rfl q2_141 q2_138 q2_140 q0_8 q1_2 (by decide +kernel) rfl (by decide) (by decide) rfl (Nat.le_of_ble_eq_true rfl) dX6_readPerson_30 ?_
      rintro _ τ365 ⟨x368, rfl, i366, f367, b369, h371⟩
      have g370 : Fr MS_X6_readPersonE AS_X6_readPersonE σ τ365 := Fr.call (g26) f367 (by decide)
      have v372 : TpC τ365 T N := v28.fr f367 (by decide) (by decide) (by simp) (by decide)
      have q373 : (gV τ365 1 j2 0).toInt = (gV σ 1 j2 0).toInt := congrArg Int32.toInt (show (gV τ365 1 j2 0) = (gV σ 1 j2 0) from (show gV τ365 1 j2 0 = (gV σ 1 j2 0) from (f367.1 1 j2 (0) (by decide) (by decide)).trans (show gV τ21 1 j2 0 = (gV σ 1 j2 0) from (f23.1 1 j2 (0) (by decide) (by decide)).trans (show gV τ7 1 j2 0 = (gV σ 1 j2 0) from (f9.1 1 j2 (0) (by decide) (by decide)).trans rfl))))
      have q374 : (gV τ365 1 j2 2).toInt = (gV σ 1 j2 2).toInt := congrArg Int32.toInt (show (gV τ365 1 j2 2) = (gV σ 1 j2 2) from (show gV τ365 1 j2 2 = (gV σ 1 j2 2) from (f367.1 1 j2 (2) (by decide) (by decide)).trans (show gV τ21 1 j2 2 = (gV σ 1 j2 2) from (f23.1 1 j2 (2) (by decide) (by decide)).trans (show gV τ7 1 j2 2 = (gV σ 1 j2 2) from (f9.1 1 j2 (2) (by decide) (by decide)).trans rfl))))
      have q375 : (gV τ365 12 0 4).toInt = (gV τ7 12 0 4).toInt := congrArg Int32.toInt (show (gV τ365 12 0 4) = (gV τ7 12 0 4) from (show gV τ365 12 0 4 = (gV τ7 12 0 4) from (f367.1 12 0 (4) (by decide) (by decide)).trans (show gV τ21 12 0 4 = (gV τ7 12 0 4) from (f23.1 12 0 (4) (by decide) (by decide)).trans rfl)))
      have q376 : (gV τ365 12 0 5).toInt = (gV τ7 12 0 5).toInt := congrArg Int32.toInt (show (gV τ365 12 0 5) = (gV τ7 12 0 5) from (show gV τ365 12 0 5 = (gV τ7 12 0 5) from (f367.1 12 0 (5) (by decide) (by decide)).trans (show gV τ21 12 0 5 = (gV τ7 12 0 5) from (f23.1 12 0 (5) (by decide) (by decide)).trans rfl)))
      have q377 : (gV τ365 12 0 6).toInt = (gV τ7 12 0 6).toInt := congrArg Int32.toInt (show (gV τ365 12 0 6) = (gV τ7 12 0 6) from (show gV τ365 12 0 6 = (gV τ7 12 0 6) from (f367.1 12 0 (6) (by decide) (by decide)).trans (show gV τ21 12 0 6 = (gV τ7 12 0 6) from (f23.1 12 0 (6) (by decide) (by decide)).trans rfl)))
      have q378 : (gV τ365 12 0 7).toInt = (gV τ7 12 0 7).toInt := congrArg Int32.toInt (show (gV τ365 12 0 7) = (gV τ7 12 0 7) from (show gV τ365 12 0 7 = (gV τ7 12 0 7) from (f367.1 12 0 (7) (by decide) (by decide)).trans (show gV τ21 12 0 7 = (gV τ7 12 0 7) from (f23.1 12 0 (7) (by decide) (by decide)).trans rfl)))
      show MW p l e _ s m args below meth c _ 7 G 0 0 33 [some (.ref (G.1 12 0)), some (.ref (G.1 1 j2)), some (.int x24), none, none, none, none] [.int x368] τ365
      exact m_zret C hr (nar_z (iv_wk b369 (by decide))) hlk (by decide) (by decide) dX6_readPerson_33 ⟨_, rfl, i366, g370, (iv_wk b369 (by decide)), (by have qd := per_1 T N st cc i (by omega) (by omega); refine Or.inl ⟨by omega, by omega, by omega, by omega⟩)⟩
  · have f379 : 7 ≤ (gV σ 1 j2 2).toInt := by
      have q : _ := c4
      simp only [ti_nle, ti_nlt, ti_le, ti_lt, ti_eq, ti_ne, Classical.not_not, kt_7] at q
      omega
    have b380 : IV (gV σ 1 j2 2) 7 7 := ⟨by have q1 := kc_7; have q2 := u1; omega, by have q1 := kc_7; have q2 := u1; omega⟩
    refine m_aload_n C dX6_readPerson_9 rfl rfl ?_
    refine m_iconst (v := 3) C dX6_readPerson_10 (by decide) ?_
    have q381 := kt_3
    refine m_callV (n := 1) (ci := 5) (st := []) C (c_X6_refuseE l G σ (3) hI ) (by decide) (by decide) rfl rfl rfl q2_141 q2_138 q2_140 q0_8 q1_2 (by decide +kernel) rfl (by decide) (by decide) rfl (Nat.le_of_ble_eq_true rfl) dX6_readPerson_11 ?_
    rintro _ τ382 ⟨x385, rfl, i383, f384, b386, h388⟩
    have g387 : Fr MS_X6_readPersonE AS_X6_readPersonE σ τ382 := Fr.call (Fr.rf) f384 (by decide)
    have v389 : TpC τ382 T N := hT.fr f384 (by decide) (by decide) (by simp) (by decide)
    have q390 : (gV τ382 1 j2 0).toInt = (gV σ 1 j2 0).toInt := congrArg Int32.toInt (show (gV τ382 1 j2 0) = (gV σ 1 j2 0) from (show gV τ382 1 j2 0 = (gV σ 1 j2 0) from (f384.1 1 j2 (0) (by decide) (by decide)).trans rfl))
    have q391 : (gV τ382 1 j2 2).toInt = (gV σ 1 j2 2).toInt := congrArg Int32.toInt (show (gV τ382 1 j2 2) = (gV σ 1 j2 2) from (show gV τ382 1 j2 2 = (gV σ 1 j2 2) from (f384.1 1 j2 (2) (by decide) (by decide)).trans rfl))
    have q392 : (gV τ382 12 0 4).toInt = (gV σ 12 0 4).toInt := congrArg Int32.toInt (show (gV τ382 12 0 4) = (gV σ 12 0 4) from (show gV τ382 12 0 4 = (gV σ 12 0 4) from (f384.1 12 0 (4) (by decide) (by decide)).trans rfl))
    have q393 : (gV τ382 12 0 5).toInt = (gV σ 12 0 5).toInt := congrArg Int32.toInt (show (gV τ382 12 0 5) = (gV σ 12 0 5) from (show gV τ382 12 0 5 = (gV σ 12 0 5) from (f384.1 12 0 (5) (by decide) (by decide)).trans rfl))
    have q394 : (gV τ382 12 0 6).toInt = (gV σ 12 0 6).toInt := congrArg Int32.toInt (show (gV τ382 12 0 6) = (gV σ 12 0 6) from (show gV τ382 12 0 6 = (gV σ 12 0 6) from (f384.1 12 0 (6) (by decide) (by decide)).trans rfl))
    have q395 : (gV τ382 12 0 7).toInt = (gV σ 12 0 7).toInt := congrArg Int32.toInt (show (gV τ382 12 0 7) = (gV σ 12 0 7) from (show gV τ382 12 0 7 = (gV σ 12 0 7) from (f384.1 12 0 (7) (by decide) (by decide)).trans rfl))
    show MW p l e _ s m args below meth c _ 7 G 0 0 14 [some (.ref (G.1 12 0)), some (.ref (G.1 1 j2)), none, none, none, none, none] [.int x385] τ382
    exact m_zret C hr (nar_z (iv_wk b386 (by decide))) hlk (by decide) (by decide) dX6_readPerson_14 ⟨_, rfl, i383, g387, (iv_wk b386 (by decide)), (by have qd := per_0 T N st cc i (by omega); refine Or.inl ⟨by omega, by omega, by omega, by omega⟩)⟩
