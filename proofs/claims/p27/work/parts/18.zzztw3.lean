abbrev MS_X6_readPersonS : List (Nat × Nat) := [(1, 2), (12, 2), (12, 3), (12, 4), (12, 5), (12, 6), (12, 7)]
abbrev AS_X6_readPersonS : List Nat := [2, 3, 6, 99]
set_option maxHeartbeats 4000000 in
set_option maxRecDepth 100000 in
theorem c_X6_readPersonS (l : Launch) (G : Gt) (σ : Sg) (T : Nat → Int) (N : Nat) (i : Nat) (st : Int) (cc : Int) {j2 : Nat} (hj2 : j2 < 28) (hI : Inv σ) (hT : TpC σ T N) (hcur : ((gV σ 12 0 4).toInt = (tS T i : Int) ∧ (gV σ 12 0 5).toInt = (tE T N i : Int) ∧ (gV σ 12 0 6).toInt = tK T N i ∧ (tK T N i = 2 → (gV σ 12 0 7).toInt = tV T i))) (hst : ((gV σ 1 j2 0).toInt = st ∧ 4 ≤ st ∧ st ≤ 32 ∧ (gV σ 1 j2 2).toInt = cc)) (hpp : pp T N cc.toNat = i ∧ PrC σ j2 cc.toNat (PP T N)) : Mc l G yX6_readPerson cX6_readPerson 7 (some .boolean) 6 132 1 3 [.ref (G.1 12 0), .ref (G.1 1 j2)] σ (PI fun r τ => Inv τ ∧ Fr MS_X6_readPersonS AS_X6_readPersonS σ τ ∧ IV r 0 1 ∧ (((r.toInt = 0 ∧ perF T N st cc i ≠ 0 ∧ (gV τ 12 0 2).toInt = perF T N st cc i ∧ ((gV τ 12 0 3).toInt = perP T N st cc i ∧ 0 ≤ (gV τ 12 0 3).toInt ∧ (gV τ 12 0 3).toInt ≤ 400)) ∨ (r.toInt = 1 ∧ perF T N st cc i = 0 ∧ (gV τ 12 0 2).toInt = (gV σ 12 0 2).toInt ∧ (gV τ 1 j2 2).toInt = cc + 1 ∧ ((gV τ 12 0 4).toInt = (tS T (tE T N (tE T N (tE T N (tE T N (tE T N (tE T N i)))))) : Int) ∧ (gV τ 12 0 5).toInt = (tE T N (tE T N (tE T N (tE T N (tE T N (tE T N (tE T N i)))))) : Int) ∧ (gV τ 12 0 6).toInt = tK T N (tE T N (tE T N (tE T N (tE T N (tE T N (tE T N i)))))) ∧ (tK T N (tE T N (tE T N (tE T N (tE T N (tE T N (tE T N i)))))) = 2 → (gV τ 12 0 7).toInt = tV T (tE T N (tE T N (tE T N (tE T N (tE T N (tE T N i)))))))))) ∧ SFd j2 σ τ ∧ PGr σ τ ∧ (r.toInt = 1 → PrC τ j2 (cc + 1).toNat (PP T N)))) := by
  refine Mc.of (L0 := [some (.ref (G.1 12 0)), some (.ref (G.1 1 j2)), none, none, none, none, none]) (by decide) (Nat.le_of_ble_eq_true rfl) rfl ?_
  intro p e s m args below meth c C hr hlk
  have C : Cx p s m args c cX6_readPerson 7 "LeanTower$Reader" := C
  have k0 : (0 : Int32).toInt = 0 := by decide
  have k1 : (1 : Int32).toInt = 1 := by decide
  have u1 : IV (gV σ 1 j2 2) 0 7 := hI.1 1 j2 2
  have u2 : IV (gV σ 12 0 4) 0 400 := hI.1 12 0 4
  have u3 : IV (gV σ 12 0 5) 0 400 := hI.1 12 0 5
  refine m_aload_n C dX6_readPerson_0 rfl rfl ?_
  refine g_1_2 C hj2 q1_81 dX6_readPerson_1 ?_
  refine m_eqs (w := (gV σ 1 j2 2)) rfl ?_
  refine m_bipush (v := 7) C dX6_readPerson_4 (by decide) ?_
  refine m_icmp_lt (tgt := 15) C dX6_readPerson_6 (by decide) (fun c4 => ?_) (fun c4 => ?_)
  · have f5 : (gV σ 1 j2 2).toInt < 7 := by
      have q : _ := c4
      simp only [ti_nle, ti_nlt, ti_le, ti_lt, ti_eq, ti_ne, Classical.not_not, kt_7] at q
      omega
    have b6 : IV (gV σ 1 j2 2) 0 6 := ⟨by have q1 := u1; have q2 := kc_7; omega, by have q1 := u1; have q2 := kc_7; omega⟩
    refine m_aload_n C dX6_readPerson_15 rfl rfl ?_
    refine m_callV (n := 0) (ci := 5) (st := []) C (c_X6_nextE l G σ T N (tE T N i)  hI hT (by omega)) (by decide) (by decide) rfl rfl rfl q2_63 q2_60 q2_62 q0_3 q1_2 (by decide +kernel) rfl (by decide) (by decide) rfl (Nat.le_of_ble_eq_true rfl) dX6_readPerson_16 ?_
    rintro _ τ7 ⟨rfl, i8, f9, h13⟩
    have g12 : Fr MS_X6_readPersonS AS_X6_readPersonS σ τ7 := Fr.call (Fr.rf) f9 (by decide)
    clear hcur
    have v14 : TpC τ7 T N := hT.fr f9 (by decide) (by decide) (by simp) (by decide)
    have v15 : SFd j2 σ τ7 := SFd.rf.fr f9 (by decide) (by decide)
    have v16 : PGr σ τ7 := PGr.rf.trans (PGr.fr f9 (by decide))
    have v17 : PrC τ7 j2 cc.toNat (PP T N) := hpp.2.fr f9 (PGr.fr f9 (by decide)) (by decide)
    have u18 : IV (gV τ7 12 0 4) 0 400 := i8.1 12 0 4
    have u19 : IV (gV τ7 12 0 5) 0 400 := i8.1 12 0 5
    have q20 : (gV τ7 1 j2 0).toInt = (gV σ 1 j2 0).toInt := congrArg Int32.toInt (show (gV τ7 1 j2 0) = (gV σ 1 j2 0) from (show gV τ7 1 j2 0 = (gV σ 1 j2 0) from (f9.1 1 j2 (0) (by decide) (by decide)).trans rfl))
    have q21 : (gV τ7 1 j2 2).toInt = (gV σ 1 j2 2).toInt := congrArg Int32.toInt (show (gV τ7 1 j2 2) = (gV σ 1 j2 2) from (show gV τ7 1 j2 2 = (gV σ 1 j2 2) from (f9.1 1 j2 (2) (by decide) (by decide)).trans rfl))
    have q22 : (gV τ7 12 0 2).toInt = (gV σ 12 0 2).toInt := congrArg Int32.toInt (show (gV τ7 12 0 2) = (gV σ 12 0 2) from (show gV τ7 12 0 2 = (gV σ 12 0 2) from (f9.1 12 0 (2) (by decide) (by decide)).trans rfl))
    have q23 : (gV τ7 12 0 3).toInt = (gV σ 12 0 3).toInt := congrArg Int32.toInt (show (gV τ7 12 0 3) = (gV σ 12 0 3) from (show gV τ7 12 0 3 = (gV σ 12 0 3) from (f9.1 12 0 (3) (by decide) (by decide)).trans rfl))
    show MW p l e _ s m args below meth c _ 7 G 0 0 19 [some (.ref (G.1 12 0)), some (.ref (G.1 1 j2)), none, none, none, none, none] [] τ7
    refine m_aload_n C dX6_readPerson_19 rfl rfl ?_
    refine m_callV (n := 0) (ci := 5) (st := []) C (c_X6_kindAtHandE l G τ7 T N (tE T N i)  i8 v14 (by omega)) (by decide) (by decide) rfl rfl rfl q2_158 q2_155 q2_157 q0_12 q1_2 (by decide +kernel) rfl (by decide) (by decide) rfl (Nat.le_of_ble_eq_true rfl) dX6_readPerson_20 ?_
    rintro _ τ24 ⟨x27, rfl, i25, f26, b28, h30⟩
    have g29 : Fr MS_X6_readPersonS AS_X6_readPersonS σ τ24 := Fr.call (g12) f26 (by decide)
    have v31 : TpC τ24 T N := v14.fr f26 (by decide) (by decide) (by simp) (by decide)
    have v32 : SFd j2 σ τ24 := v15.fr f26 (by decide) (by decide)
    have v33 : PGr σ τ24 := v16.trans (PGr.fr f26 (by decide))
    have v34 : PrC τ24 j2 cc.toNat (PP T N) := v17.fr f26 (PGr.fr f26 (by decide)) (by decide)
    have q35 : (gV τ24 1 j2 0).toInt = (gV σ 1 j2 0).toInt := congrArg Int32.toInt (show (gV τ24 1 j2 0) = (gV σ 1 j2 0) from (show gV τ24 1 j2 0 = (gV σ 1 j2 0) from (f26.1 1 j2 (0) (by decide) (by decide)).trans (show gV τ7 1 j2 0 = (gV σ 1 j2 0) from (f9.1 1 j2 (0) (by decide) (by decide)).trans rfl)))
    have q36 : (gV τ24 1 j2 2).toInt = (gV σ 1 j2 2).toInt := congrArg Int32.toInt (show (gV τ24 1 j2 2) = (gV σ 1 j2 2) from (show gV τ24 1 j2 2 = (gV σ 1 j2 2) from (f26.1 1 j2 (2) (by decide) (by decide)).trans (show gV τ7 1 j2 2 = (gV σ 1 j2 2) from (f9.1 1 j2 (2) (by decide) (by decide)).trans rfl)))
    have q37 : (gV τ24 12 0 2).toInt = (gV σ 12 0 2).toInt := congrArg Int32.toInt (show (gV τ24 12 0 2) = (gV σ 12 0 2) from (show gV τ24 12 0 2 = (gV σ 12 0 2) from (f26.1 12 0 (2) (by decide) (by decide)).trans (show gV τ7 12 0 2 = (gV σ 12 0 2) from (f9.1 12 0 (2) (by decide) (by decide)).trans rfl)))
    have q38 : (gV τ24 12 0 3).toInt = (gV σ 12 0 3).toInt := congrArg Int32.toInt (show (gV τ24 12 0 3) = (gV σ 12 0 3) from (show gV τ24 12 0 3 = (gV σ 12 0 3) from (f26.1 12 0 (3) (by decide) (by decide)).trans (show gV τ7 12 0 3 = (gV σ 12 0 3) from (f9.1 12 0 (3) (by decide) (by decide)).trans rfl)))
    have q39 : (gV τ24 12 0 4).toInt = (gV τ7 12 0 4).toInt := congrArg Int32.toInt (show (gV τ24 12 0 4) = (gV τ7 12 0 4) from (show gV τ24 12 0 4 = (gV τ7 12 0 4) from (f26.1 12 0 (4) (by decide) (by decide)).trans rfl))
    have q40 : (gV τ24 12 0 5).toInt = (gV τ7 12 0 5).toInt := congrArg Int32.toInt (show (gV τ24 12 0 5) = (gV τ7 12 0 5) from (show gV τ24 12 0 5 = (gV τ7 12 0 5) from (f26.1 12 0 (5) (by decide) (by decide)).trans rfl))
    have q41 : (gV τ24 12 0 6).toInt = (gV τ7 12 0 6).toInt := congrArg Int32.toInt (show (gV τ24 12 0 6) = (gV τ7 12 0 6) from (show gV τ24 12 0 6 = (gV τ7 12 0 6) from (f26.1 12 0 (6) (by decide) (by decide)).trans rfl))
    have q42 : (gV τ24 12 0 7).toInt = (gV τ7 12 0 7).toInt := congrArg Int32.toInt (show (gV τ24 12 0 7) = (gV τ7 12 0 7) from (show gV τ24 12 0 7 = (gV τ7 12 0 7) from (f26.1 12 0 (7) (by decide) (by decide)).trans rfl))
    show MW p l e _ s m args below meth c _ 7 G 0 0 23 [some (.ref (G.1 12 0)), some (.ref (G.1 1 j2)), none, none, none, none, none] [.int x27] τ24
    refine m_istore_n (L1 := [some (.ref (G.1 12 0)), some (.ref (G.1 1 j2)), some (.int x27), none, none, none, none]) C dX6_readPerson_23 rfl (by decide) rfl rfl ?_
    refine m_iload_n C dX6_readPerson_24 rfl rfl ?_
    refine m_if_ne (tgt := 34) C dX6_readPerson_25 (by decide) (fun c43 => ?_) (fun c43 => ?_)
    · have f44 : x27.toInt ≠ 0 := by
        have q : _ := c43
        simp only [ti_nle, ti_nlt, ti_le, ti_lt, ti_eq, ti_ne, Classical.not_not, kt_0] at q
        omega
      have b45 : IV x27 1 5 := ⟨by have q1 := b28; have q2 := kc_0; omega, by have q1 := b28; have q2 := kc_0; omega⟩
      refine m_aload_n C dX6_readPerson_34 rfl rfl ?_
      refine m_callV (n := 0) (ci := 5) (st := []) C (c_X6_nextE l G τ24 T N (tE T N (tE T N i))  i25 v31 (by omega)) (by decide) (by decide) rfl rfl rfl q2_63 q2_60 q2_62 q0_3 q1_2 (by decide +kernel) rfl (by decide) (by decide) rfl (Nat.le_of_ble_eq_true rfl) dX6_readPerson_35 ?_
      rintro _ τ46 ⟨rfl, i47, f48, h52⟩
      have g51 : Fr MS_X6_readPersonS AS_X6_readPersonS σ τ46 := Fr.call (g29) f48 (by decide)
      clear h13
      have v53 : TpC τ46 T N := v31.fr f48 (by decide) (by decide) (by simp) (by decide)
      have v54 : SFd j2 σ τ46 := v32.fr f48 (by decide) (by decide)
      have v55 : PGr σ τ46 := v33.trans (PGr.fr f48 (by decide))
      have v56 : PrC τ46 j2 cc.toNat (PP T N) := v34.fr f48 (PGr.fr f48 (by decide)) (by decide)
      have u57 : IV (gV τ46 12 0 4) 0 400 := i47.1 12 0 4
      have u58 : IV (gV τ46 12 0 5) 0 400 := i47.1 12 0 5
      have q59 : (gV τ46 1 j2 0).toInt = (gV σ 1 j2 0).toInt := congrArg Int32.toInt (show (gV τ46 1 j2 0) = (gV σ 1 j2 0) from (show gV τ46 1 j2 0 = (gV σ 1 j2 0) from (f48.1 1 j2 (0) (by decide) (by decide)).trans (show gV τ24 1 j2 0 = (gV σ 1 j2 0) from (f26.1 1 j2 (0) (by decide) (by decide)).trans (show gV τ7 1 j2 0 = (gV σ 1 j2 0) from (f9.1 1 j2 (0) (by decide) (by decide)).trans rfl))))
      have q60 : (gV τ46 1 j2 2).toInt = (gV σ 1 j2 2).toInt := congrArg Int32.toInt (show (gV τ46 1 j2 2) = (gV σ 1 j2 2) from (show gV τ46 1 j2 2 = (gV σ 1 j2 2) from (f48.1 1 j2 (2) (by decide) (by decide)).trans (show gV τ24 1 j2 2 = (gV σ 1 j2 2) from (f26.1 1 j2 (2) (by decide) (by decide)).trans (show gV τ7 1 j2 2 = (gV σ 1 j2 2) from (f9.1 1 j2 (2) (by decide) (by decide)).trans rfl))))
      have q61 : (gV τ46 12 0 2).toInt = (gV σ 12 0 2).toInt := congrArg Int32.toInt (show (gV τ46 12 0 2) = (gV σ 12 0 2) from (show gV τ46 12 0 2 = (gV σ 12 0 2) from (f48.1 12 0 (2) (by decide) (by decide)).trans (show gV τ24 12 0 2 = (gV σ 12 0 2) from (f26.1 12 0 (2) (by decide) (by decide)).trans (show gV τ7 12 0 2 = (gV σ 12 0 2) from (f9.1 12 0 (2) (by decide) (by decide)).trans rfl))))
      have q62 : (gV τ46 12 0 3).toInt = (gV σ 12 0 3).toInt := congrArg Int32.toInt (show (gV τ46 12 0 3) = (gV σ 12 0 3) from (show gV τ46 12 0 3 = (gV σ 12 0 3) from (f48.1 12 0 (3) (by decide) (by decide)).trans (show gV τ24 12 0 3 = (gV σ 12 0 3) from (f26.1 12 0 (3) (by decide) (by decide)).trans (show gV τ7 12 0 3 = (gV σ 12 0 3) from (f9.1 12 0 (3) (by decide) (by decide)).trans rfl))))
      show MW p l e _ s m args below meth c _ 7 G 0 0 38 [some (.ref (G.1 12 0)), some (.ref (G.1 1 j2)), some (.int x27), none, none, none, none] [] τ46
      refine m_aload_n C dX6_readPerson_38 rfl rfl ?_
      refine m_iconst (v := 1) C dX6_readPerson_39 (by decide) ?_
      refine m_bipush (v := 20) C dX6_readPerson_40 (by decide) ?_
      have q63 := kt_1
      have q64 := kt_20
      refine m_callV (n := 2) (ci := 5) (st := []) C (c_X6_numberE l G τ46 T N (tE T N (tE T N i)) (1) (20) i47 v53 (by omega)) (by decide) (by decide) rfl rfl rfl q2_145 q2_142 q2_144 q0_9 q1_2 (by decide +kernel) rfl (by decide) (by decide) rfl (Nat.le_of_ble_eq_true rfl) dX6_readPerson_42 ?_
      rintro _ τ65 ⟨x68, rfl, i66, f67, b69, h71⟩
      have g70 : Fr MS_X6_readPersonS AS_X6_readPersonS σ τ65 := Fr.call (g51) f67 (by decide)
      clear h52
      have v72 : TpC τ65 T N := v53.fr f67 (by decide) (by decide) (by simp) (by decide)
      have v73 : SFd j2 σ τ65 := v54.fr f67 (by decide) (by decide)
      have v74 : PGr σ τ65 := v55.trans (PGr.fr f67 (by decide))
      have v75 : PrC τ65 j2 cc.toNat (PP T N) := v56.fr f67 (PGr.fr f67 (by decide)) (by decide)
      have u76 : IV (gV τ65 12 0 4) 0 400 := i66.1 12 0 4
      have u77 : IV (gV τ65 12 0 5) 0 400 := i66.1 12 0 5
      have q78 : (gV τ65 1 j2 0).toInt = (gV σ 1 j2 0).toInt := congrArg Int32.toInt (show (gV τ65 1 j2 0) = (gV σ 1 j2 0) from (show gV τ65 1 j2 0 = (gV σ 1 j2 0) from (f67.1 1 j2 (0) (by decide) (by decide)).trans (show gV τ46 1 j2 0 = (gV σ 1 j2 0) from (f48.1 1 j2 (0) (by decide) (by decide)).trans (show gV τ24 1 j2 0 = (gV σ 1 j2 0) from (f26.1 1 j2 (0) (by decide) (by decide)).trans (show gV τ7 1 j2 0 = (gV σ 1 j2 0) from (f9.1 1 j2 (0) (by decide) (by decide)).trans rfl)))))
      have q79 : (gV τ65 1 j2 2).toInt = (gV σ 1 j2 2).toInt := congrArg Int32.toInt (show (gV τ65 1 j2 2) = (gV σ 1 j2 2) from (show gV τ65 1 j2 2 = (gV σ 1 j2 2) from (f67.1 1 j2 (2) (by decide) (by decide)).trans (show gV τ46 1 j2 2 = (gV σ 1 j2 2) from (f48.1 1 j2 (2) (by decide) (by decide)).trans (show gV τ24 1 j2 2 = (gV σ 1 j2 2) from (f26.1 1 j2 (2) (by decide) (by decide)).trans (show gV τ7 1 j2 2 = (gV σ 1 j2 2) from (f9.1 1 j2 (2) (by decide) (by decide)).trans rfl)))))
      rcases h71 with ⟨h71_0, h71_1, h71_2, h71_3⟩ | ⟨h71_0, h71_1, h71_2, h71_3, h71_4⟩ | ⟨h71_0, h71_1, h71_2, h71_3, h71_4, h71_5⟩
      · skip
        have b80 : IV x68 (-1) (-1) := ⟨by omega, by omega⟩
        show MW p l e _ s m args below meth c _ 7 G 0 0 45 [some (.ref (G.1 12 0)), some (.ref (G.1 1 j2)), some (.int x27), none, none, none, none] [.int x68] τ65
        refine m_istore_n (L1 := [some (.ref (G.1 12 0)), some (.ref (G.1 1 j2)), some (.int x27), some (.int x68), none, none, none]) C dX6_readPerson_45 rfl (by decide) rfl rfl ?_
        refine m_iload_n C dX6_readPerson_46 rfl rfl ?_
        refine m_iconst (v := (-1)) C dX6_readPerson_47 (by decide) ?_
        refine m_icmp_ne (tgt := 53) C dX6_readPerson_48 (by decide) (fun c81 => ?_) (fun c81 => ?_)
        · exfalso
          have q : _ := c81
          simp only [ti_nle, ti_nlt, ti_le, ti_lt, ti_eq, ti_ne, Classical.not_not, kt_m1] at q
          have q1 := b80; have q2 := kc_m1; omega
        · have f83 : x68.toInt = -1 := by
            have q : _ := c81
            simp only [ti_nle, ti_nlt, ti_le, ti_lt, ti_eq, ti_ne, Classical.not_not, kt_m1] at q
            omega
          refine m_iconst (v := 0) C dX6_readPerson_51 (by decide) ?_
          exact m_zret C hr rfl hlk (by decide) (by decide) dX6_readPerson_52 ⟨_, rfl, i66, g70, (iv_wk kc_0 (by decide)), ⟨(by have qd := per_2 T N st cc i (by omega) (by omega) (by omega); have qk := kt_0; refine Or.inl ⟨by omega, by omega, by omega, by omega⟩), v73, v74, (fun h => absurd h (by have qk := kt_0; omega))⟩⟩
      · skip
        have b84 : IV x68 (-1) (-1) := ⟨by omega, by omega⟩
        show MW p l e _ s m args below meth c _ 7 G 0 0 45 [some (.ref (G.1 12 0)), some (.ref (G.1 1 j2)), some (.int x27), none, none, none, none] [.int x68] τ65
        refine m_istore_n (L1 := [some (.ref (G.1 12 0)), some (.ref (G.1 1 j2)), some (.int x27), some (.int x68), none, none, none]) C dX6_readPerson_45 rfl (by decide) rfl rfl ?_
        refine m_iload_n C dX6_readPerson_46 rfl rfl ?_
        refine m_iconst (v := (-1)) C dX6_readPerson_47 (by decide) ?_
        refine m_icmp_ne (tgt := 53) C dX6_readPerson_48 (by decide) (fun c85 => ?_) (fun c85 => ?_)
        · exfalso
          have q : _ := c85
          simp only [ti_nle, ti_nlt, ti_le, ti_lt, ti_eq, ti_ne, Classical.not_not, kt_m1] at q
          have q1 := b84; have q2 := kc_m1; omega
        · have f87 : x68.toInt = -1 := by
            have q : _ := c85
            simp only [ti_nle, ti_nlt, ti_le, ti_lt, ti_eq, ti_ne, Classical.not_not, kt_m1] at q
            omega
          refine m_iconst (v := 0) C dX6_readPerson_51 (by decide) ?_
          exact m_zret C hr rfl hlk (by decide) (by decide) dX6_readPerson_52 ⟨_, rfl, i66, g70, (iv_wk kc_0 (by decide)), ⟨(by have qd := per_3 T N st cc i (by omega) (by omega) (by omega) (by omega); have qk := kt_0; refine Or.inl ⟨by omega, by omega, by omega, by omega⟩), v73, v74, (fun h => absurd h (by have qk := kt_0; omega))⟩⟩
      · skip
        show MW p l e _ s m args below meth c _ 7 G 0 0 45 [some (.ref (G.1 12 0)), some (.ref (G.1 1 j2)), some (.int x27), none, none, none, none] [.int x68] τ65
        refine m_istore_n (L1 := [some (.ref (G.1 12 0)), some (.ref (G.1 1 j2)), some (.int x27), some (.int x68), none, none, none]) C dX6_readPerson_45 rfl (by decide) rfl rfl ?_
        refine m_iload_n C dX6_readPerson_46 rfl rfl ?_
        refine m_iconst (v := (-1)) C dX6_readPerson_47 (by decide) ?_
        refine m_icmp_ne (tgt := 53) C dX6_readPerson_48 (by decide) (fun c88 => ?_) (fun c88 => ?_)
        · have f89 : x68.toInt ≠ -1 := by
            have q : _ := c88
            simp only [ti_nle, ti_nlt, ti_le, ti_lt, ti_eq, ti_ne, Classical.not_not, kt_m1] at q
            omega
          refine m_aload_n C dX6_readPerson_53 rfl rfl ?_
          refine m_iconst (v := 1) C dX6_readPerson_54 (by decide) ?_
          refine m_iconst (v := 4) C dX6_readPerson_55 (by decide) ?_
          have q90 := kt_1
          have q91 := kt_4
          refine m_callV (n := 2) (ci := 5) (st := []) C (c_X6_numberE l G τ65 T N (tE T N (tE T N (tE T N i))) (1) (4) i66 v72 (by omega)) (by decide) (by decide) rfl rfl rfl q2_145 q2_142 q2_144 q0_9 q1_2 (by decide +kernel) rfl (by decide) (by decide) rfl (Nat.le_of_ble_eq_true rfl) dX6_readPerson_56 ?_
          rintro _ τ92 ⟨x95, rfl, i93, f94, b96, h98⟩
          have g97 : Fr MS_X6_readPersonS AS_X6_readPersonS σ τ92 := Fr.call (g70) f94 (by decide)
          clear h71_5
          have v99 : TpC τ92 T N := v72.fr f94 (by decide) (by decide) (by simp) (by decide)
          have v100 : SFd j2 σ τ92 := v73.fr f94 (by decide) (by decide)
          have v101 : PGr σ τ92 := v74.trans (PGr.fr f94 (by decide))
          have v102 : PrC τ92 j2 cc.toNat (PP T N) := v75.fr f94 (PGr.fr f94 (by decide)) (by decide)
          have u103 : IV (gV τ92 12 0 4) 0 400 := i93.1 12 0 4
          have u104 : IV (gV τ92 12 0 5) 0 400 := i93.1 12 0 5
          have q105 : (gV τ92 1 j2 0).toInt = (gV σ 1 j2 0).toInt := congrArg Int32.toInt (show (gV τ92 1 j2 0) = (gV σ 1 j2 0) from (show gV τ92 1 j2 0 = (gV σ 1 j2 0) from (f94.1 1 j2 (0) (by decide) (by decide)).trans (show gV τ65 1 j2 0 = (gV σ 1 j2 0) from (f67.1 1 j2 (0) (by decide) (by decide)).trans (show gV τ46 1 j2 0 = (gV σ 1 j2 0) from (f48.1 1 j2 (0) (by decide) (by decide)).trans (show gV τ24 1 j2 0 = (gV σ 1 j2 0) from (f26.1 1 j2 (0) (by decide) (by decide)).trans (show gV τ7 1 j2 0 = (gV σ 1 j2 0) from (f9.1 1 j2 (0) (by decide) (by decide)).trans rfl))))))
          have q106 : (gV τ92 1 j2 2).toInt = (gV σ 1 j2 2).toInt := congrArg Int32.toInt (show (gV τ92 1 j2 2) = (gV σ 1 j2 2) from (show gV τ92 1 j2 2 = (gV σ 1 j2 2) from (f94.1 1 j2 (2) (by decide) (by decide)).trans (show gV τ65 1 j2 2 = (gV σ 1 j2 2) from (f67.1 1 j2 (2) (by decide) (by decide)).trans (show gV τ46 1 j2 2 = (gV σ 1 j2 2) from (f48.1 1 j2 (2) (by decide) (by decide)).trans (show gV τ24 1 j2 2 = (gV σ 1 j2 2) from (f26.1 1 j2 (2) (by decide) (by decide)).trans (show gV τ7 1 j2 2 = (gV σ 1 j2 2) from (f9.1 1 j2 (2) (by decide) (by decide)).trans rfl))))))
          rcases h98 with ⟨h98_0, h98_1, h98_2, h98_3⟩ | ⟨h98_0, h98_1, h98_2, h98_3, h98_4⟩ | ⟨h98_0, h98_1, h98_2, h98_3, h98_4, h98_5⟩
          · skip
            have b107 : IV x95 (-1) (-1) := ⟨by omega, by omega⟩
            show MW p l e _ s m args below meth c _ 7 G 0 0 59 [some (.ref (G.1 12 0)), some (.ref (G.1 1 j2)), some (.int x27), some (.int x68), none, none, none] [.int x95] τ92
            refine m_istore (L1 := [some (.ref (G.1 12 0)), some (.ref (G.1 1 j2)), some (.int x27), some (.int x68), some (.int x95), none, none]) C dX6_readPerson_59 (by decide) rfl rfl ?_
            refine m_iload C dX6_readPerson_61 rfl ?_
            refine m_iconst (v := (-1)) C dX6_readPerson_63 (by decide) ?_
            refine m_icmp_ne (tgt := 69) C dX6_readPerson_64 (by decide) (fun c108 => ?_) (fun c108 => ?_)
            · exfalso
              have q : _ := c108
              simp only [ti_nle, ti_nlt, ti_le, ti_lt, ti_eq, ti_ne, Classical.not_not, kt_m1] at q
              have q1 := b107; have q2 := kc_m1; omega
            · have f110 : x95.toInt = -1 := by
                have q : _ := c108
                simp only [ti_nle, ti_nlt, ti_le, ti_lt, ti_eq, ti_ne, Classical.not_not, kt_m1] at q
                omega
              refine m_iconst (v := 0) C dX6_readPerson_67 (by decide) ?_
              exact m_zret C hr rfl hlk (by decide) (by decide) dX6_readPerson_68 ⟨_, rfl, i93, g97, (iv_wk kc_0 (by decide)), ⟨(by have qd := per_4 T N st cc i (by omega) (by omega) (by omega) (by omega) (by omega); have qk := kt_0; refine Or.inl ⟨by omega, by omega, by omega, by omega⟩), v100, v101, (fun h => absurd h (by have qk := kt_0; omega))⟩⟩
          · skip
            have b111 : IV x95 (-1) (-1) := ⟨by omega, by omega⟩
            show MW p l e _ s m args below meth c _ 7 G 0 0 59 [some (.ref (G.1 12 0)), some (.ref (G.1 1 j2)), some (.int x27), some (.int x68), none, none, none] [.int x95] τ92
            refine m_istore (L1 := [some (.ref (G.1 12 0)), some (.ref (G.1 1 j2)), some (.int x27), some (.int x68), some (.int x95), none, none]) C dX6_readPerson_59 (by decide) rfl rfl ?_
            refine m_iload C dX6_readPerson_61 rfl ?_
            refine m_iconst (v := (-1)) C dX6_readPerson_63 (by decide) ?_
            refine m_icmp_ne (tgt := 69) C dX6_readPerson_64 (by decide) (fun c112 => ?_) (fun c112 => ?_)
            · exfalso
              have q : _ := c112
              simp only [ti_nle, ti_nlt, ti_le, ti_lt, ti_eq, ti_ne, Classical.not_not, kt_m1] at q
              have q1 := b111; have q2 := kc_m1; omega
            · have f114 : x95.toInt = -1 := by
                have q : _ := c112
                simp only [ti_nle, ti_nlt, ti_le, ti_lt, ti_eq, ti_ne, Classical.not_not, kt_m1] at q
                omega
              refine m_iconst (v := 0) C dX6_readPerson_67 (by decide) ?_
              exact m_zret C hr rfl hlk (by decide) (by decide) dX6_readPerson_68 ⟨_, rfl, i93, g97, (iv_wk kc_0 (by decide)), ⟨(by have qd := per_5 T N st cc i (by omega) (by omega) (by omega) (by omega) (by omega) (by omega); have qk := kt_0; refine Or.inl ⟨by omega, by omega, by omega, by omega⟩), v100, v101, (fun h => absurd h (by have qk := kt_0; omega))⟩⟩
          · skip
            show MW p l e _ s m args below meth c _ 7 G 0 0 59 [some (.ref (G.1 12 0)), some (.ref (G.1 1 j2)), some (.int x27), some (.int x68), none, none, none] [.int x95] τ92
            refine m_istore (L1 := [some (.ref (G.1 12 0)), some (.ref (G.1 1 j2)), some (.int x27), some (.int x68), some (.int x95), none, none]) C dX6_readPerson_59 (by decide) rfl rfl ?_
            refine m_iload C dX6_readPerson_61 rfl ?_
            refine m_iconst (v := (-1)) C dX6_readPerson_63 (by decide) ?_
            refine m_icmp_ne (tgt := 69) C dX6_readPerson_64 (by decide) (fun c115 => ?_) (fun c115 => ?_)
            · have f116 : x95.toInt ≠ -1 := by
                have q : _ := c115
                simp only [ti_nle, ti_nlt, ti_le, ti_lt, ti_eq, ti_ne, Classical.not_not, kt_m1] at q
                omega
              refine m_aload_n C dX6_readPerson_69 rfl rfl ?_
              refine g_12_6 C q1_46 dX6_readPerson_70 ?_
              refine m_eqs (w := (gV τ92 12 0 6)) rfl ?_
              refine m_iconst (v := 2) C dX6_readPerson_73 (by decide) ?_
              refine m_icmp_ne (tgt := 90) C dX6_readPerson_74 (by decide) (fun c117 => ?_) (fun c117 => ?_)
              · have f118 : (gV τ92 12 0 6).toInt ≠ 2 := by
                  have q : _ := c117
                  simp only [ti_nle, ti_nlt, ti_le, ti_lt, ti_eq, ti_ne, Classical.not_not, kt_2] at q
                  omega
                refine m_iconst (v := 0) C dX6_readPerson_90 (by decide) ?_
                refine m_istore (L1 := [some (.ref (G.1 12 0)), some (.ref (G.1 1 j2)), some (.int x27), some (.int x68), some (.int x95), some (.int 0), none]) C dX6_readPerson_91 (by decide) rfl rfl ?_
                refine m_aload_n C dX6_readPerson_93 rfl rfl ?_
                refine m_iconst (v := 0) C dX6_readPerson_94 (by decide) ?_
                refine m_iload C dX6_readPerson_95 rfl ?_
                refine m_if_eq (tgt := 105) C dX6_readPerson_97 (by decide) (fun c119 => ?_) (fun c119 => ?_)
                · have f120 : 0 = 0 := by
                    have q : _ := c119
                    simp only [ti_nle, ti_nlt, ti_le, ti_lt, ti_eq, ti_ne, Classical.not_not, kt_0, kt_0] at q
                    omega
                  have q121 : ¬ (tK T N (tE T N (tE T N (tE T N (tE T N i)))) = 2 ∧ tV T (tE T N (tE T N (tE T N (tE T N i)))) = 99) := by omega
                  refine m_aload_n C dX6_readPerson_105 rfl rfl ?_
                  refine g_1_0 C hj2 q1_75 dX6_readPerson_106 ?_
                  refine m_eqs (w := (gV σ 1 j2 0)) (show gV τ92 1 j2 0 = (gV σ 1 j2 0) from (f94.1 1 j2 (0) (by decide) (by decide)).trans (show gV τ65 1 j2 0 = (gV σ 1 j2 0) from (f67.1 1 j2 (0) (by decide) (by decide)).trans (show gV τ46 1 j2 0 = (gV σ 1 j2 0) from (f48.1 1 j2 (0) (by decide) (by decide)).trans (show gV τ24 1 j2 0 = (gV σ 1 j2 0) from (f26.1 1 j2 (0) (by decide) (by decide)).trans (show gV τ7 1 j2 0 = (gV σ 1 j2 0) from (f9.1 1 j2 (0) (by decide) (by decide)).trans rfl))))) ?_
                  have b122 : IV (gV σ 1 j2 0) 4 32 := ⟨by have q1 := (iv_any (gV σ 1 j2 0)); omega, by have q1 := (iv_any (gV σ 1 j2 0)); omega⟩
                  refine m_iconst (v := 1) C dX6_readPerson_109 (by decide) ?_
                  refine m_isub C dX6_readPerson_110 ?_
                  refine m_topi (fun x123 ex123 => ?_)
                  have tx123 : x123.toInt = (gV σ 1 j2 0).toInt - 1 := by rw [ex123, ti_subv b122 kc_1 (by decide), kt_1]
                  have b124 : IV x123 3 31 := by rw [ex123]; exact iv_sub b122 kc_1 (by decide)
                  have q125 := kt_0
                  refine m_callV (n := 2) (ci := 5) (st := []) C (c_X6_numberE l G τ92 T N (tE T N (tE T N (tE T N (tE T N i)))) (0) (x123) i93 v99 (by omega)) (by decide) (by decide) rfl rfl rfl q2_145 q2_142 q2_144 q0_9 q1_2 (by decide +kernel) rfl (by decide) (by decide) rfl (Nat.le_of_ble_eq_true rfl) dX6_readPerson_111 ?_
                  rintro _ τ126 ⟨x129, rfl, i127, f128, b130, h132⟩
                  have g131 : Fr MS_X6_readPersonS AS_X6_readPersonS σ τ126 := Fr.call (g97) f128 (by decide)
                  clear h98_5
                  have v133 : TpC τ126 T N := v99.fr f128 (by decide) (by decide) (by simp) (by decide)
                  have v134 : SFd j2 σ τ126 := v100.fr f128 (by decide) (by decide)
                  have v135 : PGr σ τ126 := v101.trans (PGr.fr f128 (by decide))
                  have v136 : PrC τ126 j2 cc.toNat (PP T N) := v102.fr f128 (PGr.fr f128 (by decide)) (by decide)
                  have u137 : IV (gV τ126 12 0 4) 0 400 := i127.1 12 0 4
                  have u138 : IV (gV τ126 12 0 5) 0 400 := i127.1 12 0 5
                  have q139 : (gV τ126 1 j2 0).toInt = (gV σ 1 j2 0).toInt := congrArg Int32.toInt (show (gV τ126 1 j2 0) = (gV σ 1 j2 0) from (show gV τ126 1 j2 0 = (gV σ 1 j2 0) from (f128.1 1 j2 (0) (by decide) (by decide)).trans (show gV τ92 1 j2 0 = (gV σ 1 j2 0) from (f94.1 1 j2 (0) (by decide) (by decide)).trans (show gV τ65 1 j2 0 = (gV σ 1 j2 0) from (f67.1 1 j2 (0) (by decide) (by decide)).trans (show gV τ46 1 j2 0 = (gV σ 1 j2 0) from (f48.1 1 j2 (0) (by decide) (by decide)).trans (show gV τ24 1 j2 0 = (gV σ 1 j2 0) from (f26.1 1 j2 (0) (by decide) (by decide)).trans (show gV τ7 1 j2 0 = (gV σ 1 j2 0) from (f9.1 1 j2 (0) (by decide) (by decide)).trans rfl)))))))
                  have q140 : (gV τ126 1 j2 2).toInt = (gV σ 1 j2 2).toInt := congrArg Int32.toInt (show (gV τ126 1 j2 2) = (gV σ 1 j2 2) from (show gV τ126 1 j2 2 = (gV σ 1 j2 2) from (f128.1 1 j2 (2) (by decide) (by decide)).trans (show gV τ92 1 j2 2 = (gV σ 1 j2 2) from (f94.1 1 j2 (2) (by decide) (by decide)).trans (show gV τ65 1 j2 2 = (gV σ 1 j2 2) from (f67.1 1 j2 (2) (by decide) (by decide)).trans (show gV τ46 1 j2 2 = (gV σ 1 j2 2) from (f48.1 1 j2 (2) (by decide) (by decide)).trans (show gV τ24 1 j2 2 = (gV σ 1 j2 2) from (f26.1 1 j2 (2) (by decide) (by decide)).trans (show gV τ7 1 j2 2 = (gV σ 1 j2 2) from (f9.1 1 j2 (2) (by decide) (by decide)).trans rfl)))))))
                  rcases h132 with ⟨h132_0, h132_1, h132_2, h132_3⟩ | ⟨h132_0, h132_1, h132_2, h132_3, h132_4⟩ | ⟨h132_0, h132_1, h132_2, h132_3, h132_4, h132_5⟩
                  · skip
                    have b141 : IV x129 (-1) (-1) := ⟨by omega, by omega⟩
                    show MW p l e _ s m args below meth c _ 7 G 0 0 114 [some (.ref (G.1 12 0)), some (.ref (G.1 1 j2)), some (.int x27), some (.int x68), some (.int x95), some (.int 0), none] [.int x129] τ126
                    refine m_istore (L1 := [some (.ref (G.1 12 0)), some (.ref (G.1 1 j2)), some (.int x27), some (.int x68), some (.int x95), some (.int 0), some (.int x129)]) C dX6_readPerson_114 (by decide) rfl rfl ?_
                    refine m_iload C dX6_readPerson_116 rfl ?_
                    refine m_iconst (v := (-1)) C dX6_readPerson_118 (by decide) ?_
                    refine m_icmp_ne (tgt := 124) C dX6_readPerson_119 (by decide) (fun c142 => ?_) (fun c142 => ?_)
                    · exfalso
                      have q : _ := c142
                      simp only [ti_nle, ti_nlt, ti_le, ti_lt, ti_eq, ti_ne, Classical.not_not, kt_m1] at q
                      have q1 := b141; have q2 := kc_m1; omega
                    · have f144 : x129.toInt = -1 := by
                        have q : _ := c142
                        simp only [ti_nle, ti_nlt, ti_le, ti_lt, ti_eq, ti_ne, Classical.not_not, kt_m1] at q
                        omega
                      refine m_iconst (v := 0) C dX6_readPerson_122 (by decide) ?_
                      exact m_zret C hr rfl hlk (by decide) (by decide) dX6_readPerson_123 ⟨_, rfl, i127, g131, (iv_wk kc_0 (by decide)), ⟨(by have qd := per_6 T N st cc i (by omega) (by omega) (by omega) (by omega) (by omega) (by omega) (by omega); have qk := kt_0; refine Or.inl ⟨by omega, by omega, by omega, by omega⟩), v134, v135, (fun h => absurd h (by have qk := kt_0; omega))⟩⟩
                  · skip
                    have b145 : IV x129 (-1) (-1) := ⟨by omega, by omega⟩
                    show MW p l e _ s m args below meth c _ 7 G 0 0 114 [some (.ref (G.1 12 0)), some (.ref (G.1 1 j2)), some (.int x27), some (.int x68), some (.int x95), some (.int 0), none] [.int x129] τ126
                    refine m_istore (L1 := [some (.ref (G.1 12 0)), some (.ref (G.1 1 j2)), some (.int x27), some (.int x68), some (.int x95), some (.int 0), some (.int x129)]) C dX6_readPerson_114 (by decide) rfl rfl ?_
                    refine m_iload C dX6_readPerson_116 rfl ?_
                    refine m_iconst (v := (-1)) C dX6_readPerson_118 (by decide) ?_
                    refine m_icmp_ne (tgt := 124) C dX6_readPerson_119 (by decide) (fun c146 => ?_) (fun c146 => ?_)
                    · exfalso
                      have q : _ := c146
                      simp only [ti_nle, ti_nlt, ti_le, ti_lt, ti_eq, ti_ne, Classical.not_not, kt_m1] at q
                      have q1 := b145; have q2 := kc_m1; omega
                    · have f148 : x129.toInt = -1 := by
                        have q : _ := c146
                        simp only [ti_nle, ti_nlt, ti_le, ti_lt, ti_eq, ti_ne, Classical.not_not, kt_m1] at q
                        omega
                      refine m_iconst (v := 0) C dX6_readPerson_122 (by decide) ?_
                      exact m_zret C hr rfl hlk (by decide) (by decide) dX6_readPerson_123 ⟨_, rfl, i127, g131, (iv_wk kc_0 (by decide)), ⟨(by have qd := per_7 T N st cc i (by omega) (by omega) (by omega) (by omega) (by omega) (by omega) (by omega) (by omega); have qk := kt_0; refine Or.inl ⟨by omega, by omega, by omega, by omega⟩), v134, v135, (fun h => absurd h (by have qk := kt_0; omega))⟩⟩
                  · skip
                    show MW p l e _ s m args below meth c _ 7 G 0 0 114 [some (.ref (G.1 12 0)), some (.ref (G.1 1 j2)), some (.int x27), some (.int x68), some (.int x95), some (.int 0), none] [.int x129] τ126
                    refine m_istore (L1 := [some (.ref (G.1 12 0)), some (.ref (G.1 1 j2)), some (.int x27), some (.int x68), some (.int x95), some (.int 0), some (.int x129)]) C dX6_readPerson_114 (by decide) rfl rfl ?_
                    refine m_iload C dX6_readPerson_116 rfl ?_
                    refine m_iconst (v := (-1)) C dX6_readPerson_118 (by decide) ?_
                    refine m_icmp_ne (tgt := 124) C dX6_readPerson_119 (by decide) (fun c149 => ?_) (fun c149 => ?_)
                    · have f150 : x129.toInt ≠ -1 := by
                        have q : _ := c149
                        simp only [ti_nle, ti_nlt, ti_le, ti_lt, ti_eq, ti_ne, Classical.not_not, kt_m1] at q
                        omega
                      refine m_aload_n C dX6_readPerson_124 rfl rfl ?_
                      refine m_iload_n C dX6_readPerson_125 rfl rfl ?_
                      refine m_aload_n C dX6_readPerson_126 rfl rfl ?_
                      refine g_1_2 C hj2 q1_81 dX6_readPerson_127 ?_
                      refine m_eqs (w := (gV σ 1 j2 2)) (show gV τ126 1 j2 2 = (gV σ 1 j2 2) from (f128.1 1 j2 (2) (by decide) (by decide)).trans (show gV τ92 1 j2 2 = (gV σ 1 j2 2) from (f94.1 1 j2 (2) (by decide) (by decide)).trans (show gV τ65 1 j2 2 = (gV σ 1 j2 2) from (f67.1 1 j2 (2) (by decide) (by decide)).trans (show gV τ46 1 j2 2 = (gV σ 1 j2 2) from (f48.1 1 j2 (2) (by decide) (by decide)).trans (show gV τ24 1 j2 2 = (gV σ 1 j2 2) from (f26.1 1 j2 (2) (by decide) (by decide)).trans (show gV τ7 1 j2 2 = (gV σ 1 j2 2) from (f9.1 1 j2 (2) (by decide) (by decide)).trans rfl)))))) ?_
                      refine m_iload_n C dX6_readPerson_130 rfl rfl ?_
                      refine m_iload C dX6_readPerson_131 rfl ?_
                      have b151 : IV x95 1 4 := ⟨by have q1 := b96; omega, by have q1 := b96; omega⟩
                      have b152 : IV x68 1 20 := ⟨by have q1 := b69; omega, by have q1 := b69; omega⟩
                      refine m_callS (n := 4) (st := [.ref (G.1 1 j2)]) C (c_X6_newPersonS l G τ126 (x27) ((gV σ 1 j2 2)) (x68) (x95) i127 b45 b6 b152 b151) q2_166 q2_164 q2_165 q1_2 (by decide +kernel) rfl (by decide) (by decide) rfl (Nat.le_of_ble_eq_true rfl) dX6_readPerson_133 ?_
                      rintro _ τ153 ⟨x156, rfl, i154, f155, h159⟩
                      have g158 : Fr MS_X6_readPersonS AS_X6_readPersonS σ τ153 := Fr.call (g131) f155 (by decide)
                      have v160 : TpC τ153 T N := v133.fr f155 (by decide) (by decide) (by simp) (by decide)
                      have v161 : SFd j2 σ τ153 := v134.fr f155 (by decide) (by decide)
                      have q164 : (gV τ153 1 j2 0).toInt = (gV σ 1 j2 0).toInt := congrArg Int32.toInt (show (gV τ153 1 j2 0) = (gV σ 1 j2 0) from (show gV τ153 1 j2 0 = (gV σ 1 j2 0) from (f155.1 1 j2 (0) (by decide) (by decide)).trans (show gV τ126 1 j2 0 = (gV σ 1 j2 0) from (f128.1 1 j2 (0) (by decide) (by decide)).trans (show gV τ92 1 j2 0 = (gV σ 1 j2 0) from (f94.1 1 j2 (0) (by decide) (by decide)).trans (show gV τ65 1 j2 0 = (gV σ 1 j2 0) from (f67.1 1 j2 (0) (by decide) (by decide)).trans (show gV τ46 1 j2 0 = (gV σ 1 j2 0) from (f48.1 1 j2 (0) (by decide) (by decide)).trans (show gV τ24 1 j2 0 = (gV σ 1 j2 0) from (f26.1 1 j2 (0) (by decide) (by decide)).trans (show gV τ7 1 j2 0 = (gV σ 1 j2 0) from (f9.1 1 j2 (0) (by decide) (by decide)).trans rfl))))))))
                      have q165 : (gV τ153 1 j2 2).toInt = (gV σ 1 j2 2).toInt := congrArg Int32.toInt (show (gV τ153 1 j2 2) = (gV σ 1 j2 2) from (show gV τ153 1 j2 2 = (gV σ 1 j2 2) from (f155.1 1 j2 (2) (by decide) (by decide)).trans (show gV τ126 1 j2 2 = (gV σ 1 j2 2) from (f128.1 1 j2 (2) (by decide) (by decide)).trans (show gV τ92 1 j2 2 = (gV σ 1 j2 2) from (f94.1 1 j2 (2) (by decide) (by decide)).trans (show gV τ65 1 j2 2 = (gV σ 1 j2 2) from (f67.1 1 j2 (2) (by decide) (by decide)).trans (show gV τ46 1 j2 2 = (gV σ 1 j2 2) from (f48.1 1 j2 (2) (by decide) (by decide)).trans (show gV τ24 1 j2 2 = (gV σ 1 j2 2) from (f26.1 1 j2 (2) (by decide) (by decide)).trans (show gV τ7 1 j2 2 = (gV σ 1 j2 2) from (f9.1 1 j2 (2) (by decide) (by decide)).trans rfl))))))))
                      have q166 : (gV τ153 12 0 2).toInt = (gV τ126 12 0 2).toInt := congrArg Int32.toInt (show (gV τ153 12 0 2) = (gV τ126 12 0 2) from (show gV τ153 12 0 2 = (gV τ126 12 0 2) from (f155.1 12 0 (2) (by decide) (by decide)).trans rfl))
                      have q167 : (gV τ153 12 0 3).toInt = (gV τ126 12 0 3).toInt := congrArg Int32.toInt (show (gV τ153 12 0 3) = (gV τ126 12 0 3) from (show gV τ153 12 0 3 = (gV τ126 12 0 3) from (f155.1 12 0 (3) (by decide) (by decide)).trans rfl))
                      have q168 : (gV τ153 12 0 4).toInt = (gV τ126 12 0 4).toInt := congrArg Int32.toInt (show (gV τ153 12 0 4) = (gV τ126 12 0 4) from (show gV τ153 12 0 4 = (gV τ126 12 0 4) from (f155.1 12 0 (4) (by decide) (by decide)).trans rfl))
                      have q169 : (gV τ153 12 0 5).toInt = (gV τ126 12 0 5).toInt := congrArg Int32.toInt (show (gV τ153 12 0 5) = (gV τ126 12 0 5) from (show gV τ153 12 0 5 = (gV τ126 12 0 5) from (f155.1 12 0 (5) (by decide) (by decide)).trans rfl))
                      have q170 : (gV τ153 12 0 6).toInt = (gV τ126 12 0 6).toInt := congrArg Int32.toInt (show (gV τ153 12 0 6) = (gV τ126 12 0 6) from (show gV τ153 12 0 6 = (gV τ126 12 0 6) from (f155.1 12 0 (6) (by decide) (by decide)).trans rfl))
                      have q171 : (gV τ153 12 0 7).toInt = (gV τ126 12 0 7).toInt := congrArg Int32.toInt (show (gV τ153 12 0 7) = (gV τ126 12 0 7) from (show gV τ153 12 0 7 = (gV τ126 12 0 7) from (f155.1 12 0 (7) (by decide) (by decide)).trans rfl))
                      obtain ⟨x156q, rfl, x156m, x156g, x156p⟩ := h159
                      have v172 : PGr σ τ153 := v135.trans x156g
                      have v173 : PrC τ153 j2 cc.toNat (PP T N) := v136.fr f155 x156g (by decide)
                      show MW p l e _ s m args below meth c _ 7 G 1 3 136 [some (.ref (G.1 12 0)), some (.ref (G.1 1 j2)), some (.int x27), some (.int x68), some (.int x95), some (.int 0), some (.int x129)] [.ref x156q, .ref (G.1 1 j2)] τ153
                      refine m_iload C dX6_readPerson_136 rfl ?_
                      refine m_if_eq (tgt := 145) C dX6_readPerson_138 (by decide) (fun c174 => ?_) (fun c174 => ?_)
                      · have f175 : 0 = 0 := by
                          have q : _ := c174
                          simp only [ti_nle, ti_nlt, ti_le, ti_lt, ti_eq, ti_ne, Classical.not_not, kt_0, kt_0] at q
                          omega
                        refine m_iload C dX6_readPerson_145 rfl ?_
                        refine m_callV (n := 2) (ci := 7) (st := []) C (c_X8_addPersonS l G τ153 (j := j2) hj2 x156q (x129) i154 x156m) (by decide) hj2 rfl rfl rfl q2_235 q2_232 q2_233 q2_234 q1_3 (by decide +kernel) rfl (by decide) (by decide) rfl (Nat.le_of_ble_eq_true rfl) dX6_readPerson_147 ?_
                        rintro _ τ176 ⟨rfl, i177, f178, h182⟩
                        obtain ⟨h182, h182t0⟩ := h182
                        have g181 : Fr MS_X6_readPersonS AS_X6_readPersonS σ τ176 := Fr.call (g158) f178 (by decide)
                        have v184 : PeC τ153 x156q cc.toNat (PP T N cc.toNat) := by
                          unfold PP
                          rw [hpp.1, ← (show x27.toInt = tQ T N (tE T N i) by omega), ← (show x68.toInt = tV T (tE T N (tE T N i)) by omega), ← (show x95.toInt = tV T (tE T N (tE T N (tE T N i))) by omega), show cc.toNat = (gV σ 1 j2 2).toInt.toNat by omega]
                          exact x156p
                        have v185 : ADP τ153 τ176 j2 cc.toNat x156q := by have q := h182t0 (by omega); rw [show (gV τ153 1 j2 2).toInt.toNat = cc.toNat by omega] at q; exact q
                        have v183 : PrC τ176 j2 (cc.toNat + 1) (PP T N) := v173.more v185 (PGr.fr f178 (by decide)) v184
                        have v186 : TpC τ176 T N := v160.fr f178 (by decide) (by decide) (by simp) (by decide)
                        have v187 : SFd j2 σ τ176 := v161.trans (h182t0 (by omega)).1
                        have v188 : x156q ∈ τ176.2.2.2.1 := by rw [f178.2.2 (by decide)]; exact x156m
                        have v189 : PGr σ τ176 := v172.trans (PGr.fr f178 (by decide))
                        have u191 : IV (gV τ176 1 j2 2) 0 7 := i177.1 1 j2 2
                        have q192 : (gV τ176 1 j2 0).toInt = (gV σ 1 j2 0).toInt := congrArg Int32.toInt (show (gV τ176 1 j2 0) = (gV σ 1 j2 0) from (show gV τ176 1 j2 0 = (gV σ 1 j2 0) from (f178.1 1 j2 (0) (by decide) (by decide)).trans (show gV τ153 1 j2 0 = (gV σ 1 j2 0) from (f155.1 1 j2 (0) (by decide) (by decide)).trans (show gV τ126 1 j2 0 = (gV σ 1 j2 0) from (f128.1 1 j2 (0) (by decide) (by decide)).trans (show gV τ92 1 j2 0 = (gV σ 1 j2 0) from (f94.1 1 j2 (0) (by decide) (by decide)).trans (show gV τ65 1 j2 0 = (gV σ 1 j2 0) from (f67.1 1 j2 (0) (by decide) (by decide)).trans (show gV τ46 1 j2 0 = (gV σ 1 j2 0) from (f48.1 1 j2 (0) (by decide) (by decide)).trans (show gV τ24 1 j2 0 = (gV σ 1 j2 0) from (f26.1 1 j2 (0) (by decide) (by decide)).trans (show gV τ7 1 j2 0 = (gV σ 1 j2 0) from (f9.1 1 j2 (0) (by decide) (by decide)).trans rfl)))))))))
                        have q193 : (gV τ176 12 0 2).toInt = (gV τ126 12 0 2).toInt := congrArg Int32.toInt (show (gV τ176 12 0 2) = (gV τ126 12 0 2) from (show gV τ176 12 0 2 = (gV τ126 12 0 2) from (f178.1 12 0 (2) (by decide) (by decide)).trans (show gV τ153 12 0 2 = (gV τ126 12 0 2) from (f155.1 12 0 (2) (by decide) (by decide)).trans rfl)))
                        have q194 : (gV τ176 12 0 3).toInt = (gV τ126 12 0 3).toInt := congrArg Int32.toInt (show (gV τ176 12 0 3) = (gV τ126 12 0 3) from (show gV τ176 12 0 3 = (gV τ126 12 0 3) from (f178.1 12 0 (3) (by decide) (by decide)).trans (show gV τ153 12 0 3 = (gV τ126 12 0 3) from (f155.1 12 0 (3) (by decide) (by decide)).trans rfl)))
                        have q195 : (gV τ176 12 0 4).toInt = (gV τ126 12 0 4).toInt := congrArg Int32.toInt (show (gV τ176 12 0 4) = (gV τ126 12 0 4) from (show gV τ176 12 0 4 = (gV τ126 12 0 4) from (f178.1 12 0 (4) (by decide) (by decide)).trans (show gV τ153 12 0 4 = (gV τ126 12 0 4) from (f155.1 12 0 (4) (by decide) (by decide)).trans rfl)))
                        have q196 : (gV τ176 12 0 5).toInt = (gV τ126 12 0 5).toInt := congrArg Int32.toInt (show (gV τ176 12 0 5) = (gV τ126 12 0 5) from (show gV τ176 12 0 5 = (gV τ126 12 0 5) from (f178.1 12 0 (5) (by decide) (by decide)).trans (show gV τ153 12 0 5 = (gV τ126 12 0 5) from (f155.1 12 0 (5) (by decide) (by decide)).trans rfl)))
                        have q197 : (gV τ176 12 0 6).toInt = (gV τ126 12 0 6).toInt := congrArg Int32.toInt (show (gV τ176 12 0 6) = (gV τ126 12 0 6) from (show gV τ176 12 0 6 = (gV τ126 12 0 6) from (f178.1 12 0 (6) (by decide) (by decide)).trans (show gV τ153 12 0 6 = (gV τ126 12 0 6) from (f155.1 12 0 (6) (by decide) (by decide)).trans rfl)))
                        have q198 : (gV τ176 12 0 7).toInt = (gV τ126 12 0 7).toInt := congrArg Int32.toInt (show (gV τ176 12 0 7) = (gV τ126 12 0 7) from (show gV τ176 12 0 7 = (gV τ126 12 0 7) from (f178.1 12 0 (7) (by decide) (by decide)).trans (show gV τ153 12 0 7 = (gV τ126 12 0 7) from (f155.1 12 0 (7) (by decide) (by decide)).trans rfl)))
                        show MW p l e _ s m args below meth c _ 7 G 1 3 150 [some (.ref (G.1 12 0)), some (.ref (G.1 1 j2)), some (.int x27), some (.int x68), some (.int x95), some (.int 0), some (.int x129)] [] τ176
                        refine m_aload_n C dX6_readPerson_150 rfl rfl ?_
                        refine m_callV (n := 0) (ci := 5) (st := []) C (c_X6_passSemicolonE l G τ176 T N (tE T N (tE T N (tE T N (tE T N (tE T N i)))))  i177 v186 (by omega)) (by decide) (by decide) rfl rfl rfl q2_149 q2_146 q2_148 q0_10 q1_2 (by decide +kernel) rfl (by decide) (by decide) rfl (Nat.le_of_ble_eq_true rfl) dX6_readPerson_151 ?_
                        rintro _ τ199 ⟨x202, rfl, i200, f201, b203, h205⟩
                        have g204 : Fr MS_X6_readPersonS AS_X6_readPersonS σ τ199 := Fr.call (g181) f201 (by decide)
                        clear h132_5
                        have v206 : TpC τ199 T N := v186.fr f201 (by decide) (by decide) (by simp) (by decide)
                        have v207 : SFd j2 σ τ199 := v187.fr f201 (by decide) (by decide)
                        have v208 : x156q ∈ τ199.2.2.2.1 := by rw [f201.2.2 (by decide)]; exact v188
                        have v209 : PGr σ τ199 := v189.trans (PGr.fr f201 (by decide))
                        have v210 : PrC τ199 j2 (cc.toNat + 1) (PP T N) := v183.fr f201 (PGr.fr f201 (by decide)) (by decide)
                        have u211 : IV (gV τ199 12 0 4) 0 400 := i200.1 12 0 4
                        have u212 : IV (gV τ199 12 0 5) 0 400 := i200.1 12 0 5
                        have q213 : (gV τ199 1 j2 0).toInt = (gV σ 1 j2 0).toInt := congrArg Int32.toInt (show (gV τ199 1 j2 0) = (gV σ 1 j2 0) from (show gV τ199 1 j2 0 = (gV σ 1 j2 0) from (f201.1 1 j2 (0) (by decide) (by decide)).trans (show gV τ176 1 j2 0 = (gV σ 1 j2 0) from (f178.1 1 j2 (0) (by decide) (by decide)).trans (show gV τ153 1 j2 0 = (gV σ 1 j2 0) from (f155.1 1 j2 (0) (by decide) (by decide)).trans (show gV τ126 1 j2 0 = (gV σ 1 j2 0) from (f128.1 1 j2 (0) (by decide) (by decide)).trans (show gV τ92 1 j2 0 = (gV σ 1 j2 0) from (f94.1 1 j2 (0) (by decide) (by decide)).trans (show gV τ65 1 j2 0 = (gV σ 1 j2 0) from (f67.1 1 j2 (0) (by decide) (by decide)).trans (show gV τ46 1 j2 0 = (gV σ 1 j2 0) from (f48.1 1 j2 (0) (by decide) (by decide)).trans (show gV τ24 1 j2 0 = (gV σ 1 j2 0) from (f26.1 1 j2 (0) (by decide) (by decide)).trans (show gV τ7 1 j2 0 = (gV σ 1 j2 0) from (f9.1 1 j2 (0) (by decide) (by decide)).trans rfl))))))))))
                        have q214 : (gV τ199 1 j2 2).toInt = (gV τ176 1 j2 2).toInt := congrArg Int32.toInt (show (gV τ199 1 j2 2) = (gV τ176 1 j2 2) from (show gV τ199 1 j2 2 = (gV τ176 1 j2 2) from (f201.1 1 j2 (2) (by decide) (by decide)).trans rfl))
                        rcases h205 with ⟨h205_0, h205_1, h205_2, h205_3⟩ | ⟨h205_0, h205_1, h205_2, h205_3⟩
                        · skip
                          have b215 : IV x202 0 0 := ⟨by omega, by omega⟩
                          show MW p l e _ s m args below meth c _ 7 G 1 3 154 [some (.ref (G.1 12 0)), some (.ref (G.1 1 j2)), some (.int x27), some (.int x68), some (.int x95), some (.int 0), some (.int x129)] [.int x202] τ199
                          exact m_zret C hr (nar_z (iv_wk b215 (by decide))) hlk (by decide) (by decide) dX6_readPerson_154 ⟨_, rfl, i200, g204, (iv_wk b215 (by decide)), ⟨(by have qd := per_8 T N st cc i (by omega) (by omega) (by omega) (by omega) (by omega) (by omega) (by omega) (by omega) (by omega); refine Or.inl ⟨by omega, by omega, by omega, by omega⟩), v207, v209, (fun h => absurd h (by omega))⟩⟩
                        · skip
                          have b216 : IV x202 1 1 := ⟨by omega, by omega⟩
                          show MW p l e _ s m args below meth c _ 7 G 1 3 154 [some (.ref (G.1 12 0)), some (.ref (G.1 1 j2)), some (.int x27), some (.int x68), some (.int x95), some (.int 0), some (.int x129)] [.int x202] τ199
                          exact m_zret C hr (nar_z (iv_wk b216 (by decide))) hlk (by decide) (by decide) dX6_readPerson_154 ⟨_, rfl, i200, g204, (iv_wk b216 (by decide)), ⟨(by have qd := per_ok T N st cc i (by omega) (by omega) (by omega) (by omega) (by omega) (by omega) (by omega) (by omega) (by omega); refine Or.inr ⟨by omega, by omega, by omega, by omega, by omega⟩), v207, v209, (fun _ => v210.cast (by omega))⟩⟩
                      · first | exact absurd c174 (by decide) | exact absurd (by decide) c174
                    · have f218 : x129.toInt = -1 := by
                        have q : _ := c149
                        simp only [ti_nle, ti_nlt, ti_le, ti_lt, ti_eq, ti_ne, Classical.not_not, kt_m1] at q
                        omega
                      have b219 : IV x129 (-1) (-1) := ⟨by have q1 := b130; have q2 := kc_m1; omega, by have q1 := b130; have q2 := kc_m1; omega⟩
                      refine m_iconst (v := 0) C dX6_readPerson_122 (by decide) ?_
                      exact m_zret C hr rfl hlk (by decide) (by decide) dX6_readPerson_123 ⟨_, rfl, i127, g131, (iv_wk kc_0 (by decide)), ⟨(by have qd := per_ok T N st cc i (by omega) (by omega) (by omega) (by omega) (by omega) (by omega) (by omega) (by omega) (by omega); have qk := kt_0; refine Or.inl ⟨by omega, by omega, by omega, by omega⟩), v134, v135, (fun h => absurd h (by have qk := kt_0; omega))⟩⟩
                · first | exact absurd c119 (by decide) | exact absurd (by decide) c119
              · have f221 : (gV τ92 12 0 6).toInt = 2 := by
                  have q : _ := c117
                  simp only [ti_nle, ti_nlt, ti_le, ti_lt, ti_eq, ti_ne, Classical.not_not, kt_2] at q
                  omega
                have b222 : IV (gV τ92 12 0 6) 2 2 := ⟨by have q1 := (iv_any (gV τ92 12 0 6)); have q2 := kc_2; omega, by have q1 := (iv_any (gV τ92 12 0 6)); have q2 := kc_2; omega⟩
                refine m_aload_n C dX6_readPerson_77 rfl rfl ?_
                refine g_12_7 C q1_47 dX6_readPerson_78 ?_
                refine m_eqs (w := (gV τ92 12 0 7)) rfl ?_
                refine m_bipush (v := 99) C dX6_readPerson_81 (by decide) ?_
                refine m_icmp_ne (tgt := 90) C dX6_readPerson_83 (by decide) (fun c223 => ?_) (fun c223 => ?_)
                · have f224 : (gV τ92 12 0 7).toInt ≠ 99 := by
                    have q : _ := c223
                    simp only [ti_nle, ti_nlt, ti_le, ti_lt, ti_eq, ti_ne, Classical.not_not, kt_99] at q
                    omega
                  refine m_iconst (v := 0) C dX6_readPerson_90 (by decide) ?_
                  refine m_istore (L1 := [some (.ref (G.1 12 0)), some (.ref (G.1 1 j2)), some (.int x27), some (.int x68), some (.int x95), some (.int 0), none]) C dX6_readPerson_91 (by decide) rfl rfl ?_
                  refine m_aload_n C dX6_readPerson_93 rfl rfl ?_
                  refine m_iconst (v := 0) C dX6_readPerson_94 (by decide) ?_
                  refine m_iload C dX6_readPerson_95 rfl ?_
                  refine m_if_eq (tgt := 105) C dX6_readPerson_97 (by decide) (fun c225 => ?_) (fun c225 => ?_)
                  · have f226 : 0 = 0 := by
                      have q : _ := c225
                      simp only [ti_nle, ti_nlt, ti_le, ti_lt, ti_eq, ti_ne, Classical.not_not, kt_0, kt_0] at q
                      omega
                    have q227 : ¬ (tK T N (tE T N (tE T N (tE T N (tE T N i)))) = 2 ∧ tV T (tE T N (tE T N (tE T N (tE T N i)))) = 99) := by omega
                    refine m_aload_n C dX6_readPerson_105 rfl rfl ?_
                    refine g_1_0 C hj2 q1_75 dX6_readPerson_106 ?_
                    refine m_eqs (w := (gV σ 1 j2 0)) (show gV τ92 1 j2 0 = (gV σ 1 j2 0) from (f94.1 1 j2 (0) (by decide) (by decide)).trans (show gV τ65 1 j2 0 = (gV σ 1 j2 0) from (f67.1 1 j2 (0) (by decide) (by decide)).trans (show gV τ46 1 j2 0 = (gV σ 1 j2 0) from (f48.1 1 j2 (0) (by decide) (by decide)).trans (show gV τ24 1 j2 0 = (gV σ 1 j2 0) from (f26.1 1 j2 (0) (by decide) (by decide)).trans (show gV τ7 1 j2 0 = (gV σ 1 j2 0) from (f9.1 1 j2 (0) (by decide) (by decide)).trans rfl))))) ?_
                    have b228 : IV (gV σ 1 j2 0) 4 32 := ⟨by have q1 := (iv_any (gV σ 1 j2 0)); omega, by have q1 := (iv_any (gV σ 1 j2 0)); omega⟩
                    refine m_iconst (v := 1) C dX6_readPerson_109 (by decide) ?_
                    refine m_isub C dX6_readPerson_110 ?_
                    refine m_topi (fun x229 ex229 => ?_)
                    have tx229 : x229.toInt = (gV σ 1 j2 0).toInt - 1 := by rw [ex229, ti_subv b228 kc_1 (by decide), kt_1]
                    have b230 : IV x229 3 31 := by rw [ex229]; exact iv_sub b228 kc_1 (by decide)
                    have q231 := kt_0
                    refine m_callV (n := 2) (ci := 5) (st := []) C (c_X6_numberE l G τ92 T N (tE T N (tE T N (tE T N (tE T N i)))) (0) (x229) i93 v99 (by omega)) (by decide) (by decide) rfl rfl rfl q2_145 q2_142 q2_144 q0_9 q1_2 (by decide +kernel) rfl (by decide) (by decide) rfl (Nat.le_of_ble_eq_true rfl) dX6_readPerson_111 ?_
                    rintro _ τ232 ⟨x235, rfl, i233, f234, b236, h238⟩
                    have g237 : Fr MS_X6_readPersonS AS_X6_readPersonS σ τ232 := Fr.call (g97) f234 (by decide)
                    clear h98_5
                    have v239 : TpC τ232 T N := v99.fr f234 (by decide) (by decide) (by simp) (by decide)
                    have v240 : SFd j2 σ τ232 := v100.fr f234 (by decide) (by decide)
                    have v241 : PGr σ τ232 := v101.trans (PGr.fr f234 (by decide))
                    have v242 : PrC τ232 j2 cc.toNat (PP T N) := v102.fr f234 (PGr.fr f234 (by decide)) (by decide)
                    have u243 : IV (gV τ232 12 0 4) 0 400 := i233.1 12 0 4
                    have u244 : IV (gV τ232 12 0 5) 0 400 := i233.1 12 0 5
                    have q245 : (gV τ232 1 j2 0).toInt = (gV σ 1 j2 0).toInt := congrArg Int32.toInt (show (gV τ232 1 j2 0) = (gV σ 1 j2 0) from (show gV τ232 1 j2 0 = (gV σ 1 j2 0) from (f234.1 1 j2 (0) (by decide) (by decide)).trans (show gV τ92 1 j2 0 = (gV σ 1 j2 0) from (f94.1 1 j2 (0) (by decide) (by decide)).trans (show gV τ65 1 j2 0 = (gV σ 1 j2 0) from (f67.1 1 j2 (0) (by decide) (by decide)).trans (show gV τ46 1 j2 0 = (gV σ 1 j2 0) from (f48.1 1 j2 (0) (by decide) (by decide)).trans (show gV τ24 1 j2 0 = (gV σ 1 j2 0) from (f26.1 1 j2 (0) (by decide) (by decide)).trans (show gV τ7 1 j2 0 = (gV σ 1 j2 0) from (f9.1 1 j2 (0) (by decide) (by decide)).trans rfl)))))))
                    have q246 : (gV τ232 1 j2 2).toInt = (gV σ 1 j2 2).toInt := congrArg Int32.toInt (show (gV τ232 1 j2 2) = (gV σ 1 j2 2) from (show gV τ232 1 j2 2 = (gV σ 1 j2 2) from (f234.1 1 j2 (2) (by decide) (by decide)).trans (show gV τ92 1 j2 2 = (gV σ 1 j2 2) from (f94.1 1 j2 (2) (by decide) (by decide)).trans (show gV τ65 1 j2 2 = (gV σ 1 j2 2) from (f67.1 1 j2 (2) (by decide) (by decide)).trans (show gV τ46 1 j2 2 = (gV σ 1 j2 2) from (f48.1 1 j2 (2) (by decide) (by decide)).trans (show gV τ24 1 j2 2 = (gV σ 1 j2 2) from (f26.1 1 j2 (2) (by decide) (by decide)).trans (show gV τ7 1 j2 2 = (gV σ 1 j2 2) from (f9.1 1 j2 (2) (by decide) (by decide)).trans rfl)))))))
                    rcases h238 with ⟨h238_0, h238_1, h238_2, h238_3⟩ | ⟨h238_0, h238_1, h238_2, h238_3, h238_4⟩ | ⟨h238_0, h238_1, h238_2, h238_3, h238_4, h238_5⟩
                    · skip
                      have b247 : IV x235 (-1) (-1) := ⟨by omega, by omega⟩
                      show MW p l e _ s m args below meth c _ 7 G 0 0 114 [some (.ref (G.1 12 0)), some (.ref (G.1 1 j2)), some (.int x27), some (.int x68), some (.int x95), some (.int 0), none] [.int x235] τ232
                      refine m_istore (L1 := [some (.ref (G.1 12 0)), some (.ref (G.1 1 j2)), some (.int x27), some (.int x68), some (.int x95), some (.int 0), some (.int x235)]) C dX6_readPerson_114 (by decide) rfl rfl ?_
                      refine m_iload C dX6_readPerson_116 rfl ?_
                      refine m_iconst (v := (-1)) C dX6_readPerson_118 (by decide) ?_
                      refine m_icmp_ne (tgt := 124) C dX6_readPerson_119 (by decide) (fun c248 => ?_) (fun c248 => ?_)
                      · exfalso
                        have q : _ := c248
                        simp only [ti_nle, ti_nlt, ti_le, ti_lt, ti_eq, ti_ne, Classical.not_not, kt_m1] at q
                        have q1 := b247; have q2 := kc_m1; omega
                      · have f250 : x235.toInt = -1 := by
                          have q : _ := c248
                          simp only [ti_nle, ti_nlt, ti_le, ti_lt, ti_eq, ti_ne, Classical.not_not, kt_m1] at q
                          omega
                        refine m_iconst (v := 0) C dX6_readPerson_122 (by decide) ?_
                        exact m_zret C hr rfl hlk (by decide) (by decide) dX6_readPerson_123 ⟨_, rfl, i233, g237, (iv_wk kc_0 (by decide)), ⟨(by have qd := per_6 T N st cc i (by omega) (by omega) (by omega) (by omega) (by omega) (by omega) (by omega); have qk := kt_0; refine Or.inl ⟨by omega, by omega, by omega, by omega⟩), v240, v241, (fun h => absurd h (by have qk := kt_0; omega))⟩⟩
                    · skip
                      have b251 : IV x235 (-1) (-1) := ⟨by omega, by omega⟩
                      show MW p l e _ s m args below meth c _ 7 G 0 0 114 [some (.ref (G.1 12 0)), some (.ref (G.1 1 j2)), some (.int x27), some (.int x68), some (.int x95), some (.int 0), none] [.int x235] τ232
                      refine m_istore (L1 := [some (.ref (G.1 12 0)), some (.ref (G.1 1 j2)), some (.int x27), some (.int x68), some (.int x95), some (.int 0), some (.int x235)]) C dX6_readPerson_114 (by decide) rfl rfl ?_
                      refine m_iload C dX6_readPerson_116 rfl ?_
                      refine m_iconst (v := (-1)) C dX6_readPerson_118 (by decide) ?_
                      refine m_icmp_ne (tgt := 124) C dX6_readPerson_119 (by decide) (fun c252 => ?_) (fun c252 => ?_)
                      · exfalso
                        have q : _ := c252
                        simp only [ti_nle, ti_nlt, ti_le, ti_lt, ti_eq, ti_ne, Classical.not_not, kt_m1] at q
                        have q1 := b251; have q2 := kc_m1; omega
                      · have f254 : x235.toInt = -1 := by
                          have q : _ := c252
                          simp only [ti_nle, ti_nlt, ti_le, ti_lt, ti_eq, ti_ne, Classical.not_not, kt_m1] at q
                          omega
                        refine m_iconst (v := 0) C dX6_readPerson_122 (by decide) ?_
                        exact m_zret C hr rfl hlk (by decide) (by decide) dX6_readPerson_123 ⟨_, rfl, i233, g237, (iv_wk kc_0 (by decide)), ⟨(by have qd := per_7 T N st cc i (by omega) (by omega) (by omega) (by omega) (by omega) (by omega) (by omega) (by omega); have qk := kt_0; refine Or.inl ⟨by omega, by omega, by omega, by omega⟩), v240, v241, (fun h => absurd h (by have qk := kt_0; omega))⟩⟩
                    · skip
                      show MW p l e _ s m args below meth c _ 7 G 0 0 114 [some (.ref (G.1 12 0)), some (.ref (G.1 1 j2)), some (.int x27), some (.int x68), some (.int x95), some (.int 0), none] [.int x235] τ232
                      refine m_istore (L1 := [some (.ref (G.1 12 0)), some (.ref (G.1 1 j2)), some (.int x27), some (.int x68), some (.int x95), some (.int 0), some (.int x235)]) C dX6_readPerson_114 (by decide) rfl rfl ?_
                      refine m_iload C dX6_readPerson_116 rfl ?_
                      refine m_iconst (v := (-1)) C dX6_readPerson_118 (by decide) ?_
                      refine m_icmp_ne (tgt := 124) C dX6_readPerson_119 (by decide) (fun c255 => ?_) (fun c255 => ?_)
                      · have f256 : x235.toInt ≠ -1 := by
                          have q : _ := c255
                          simp only [ti_nle, ti_nlt, ti_le, ti_lt, ti_eq, ti_ne, Classical.not_not, kt_m1] at q
                          omega
                        refine m_aload_n C dX6_readPerson_124 rfl rfl ?_
                        refine m_iload_n C dX6_readPerson_125 rfl rfl ?_
                        refine m_aload_n C dX6_readPerson_126 rfl rfl ?_
                        refine g_1_2 C hj2 q1_81 dX6_readPerson_127 ?_
                        refine m_eqs (w := (gV σ 1 j2 2)) (show gV τ232 1 j2 2 = (gV σ 1 j2 2) from (f234.1 1 j2 (2) (by decide) (by decide)).trans (show gV τ92 1 j2 2 = (gV σ 1 j2 2) from (f94.1 1 j2 (2) (by decide) (by decide)).trans (show gV τ65 1 j2 2 = (gV σ 1 j2 2) from (f67.1 1 j2 (2) (by decide) (by decide)).trans (show gV τ46 1 j2 2 = (gV σ 1 j2 2) from (f48.1 1 j2 (2) (by decide) (by decide)).trans (show gV τ24 1 j2 2 = (gV σ 1 j2 2) from (f26.1 1 j2 (2) (by decide) (by decide)).trans (show gV τ7 1 j2 2 = (gV σ 1 j2 2) from (f9.1 1 j2 (2) (by decide) (by decide)).trans rfl)))))) ?_
                        refine m_iload_n C dX6_readPerson_130 rfl rfl ?_
                        refine m_iload C dX6_readPerson_131 rfl ?_
                        have b257 : IV x95 1 4 := ⟨by have q1 := b96; omega, by have q1 := b96; omega⟩
                        have b258 : IV x68 1 20 := ⟨by have q1 := b69; omega, by have q1 := b69; omega⟩
                        refine m_callS (n := 4) (st := [.ref (G.1 1 j2)]) C (c_X6_newPersonS l G τ232 (x27) ((gV σ 1 j2 2)) (x68) (x95) i233 b45 b6 b258 b257) q2_166 q2_164 q2_165 q1_2 (by decide +kernel) rfl (by decide) (by decide) rfl (Nat.le_of_ble_eq_true rfl) dX6_readPerson_133 ?_
                        rintro _ τ259 ⟨x262, rfl, i260, f261, h265⟩
                        have g264 : Fr MS_X6_readPersonS AS_X6_readPersonS σ τ259 := Fr.call (g237) f261 (by decide)
                        have v266 : TpC τ259 T N := v239.fr f261 (by decide) (by decide) (by simp) (by decide)
                        have v267 : SFd j2 σ τ259 := v240.fr f261 (by decide) (by decide)
                        have q270 : (gV τ259 1 j2 0).toInt = (gV σ 1 j2 0).toInt := congrArg Int32.toInt (show (gV τ259 1 j2 0) = (gV σ 1 j2 0) from (show gV τ259 1 j2 0 = (gV σ 1 j2 0) from (f261.1 1 j2 (0) (by decide) (by decide)).trans (show gV τ232 1 j2 0 = (gV σ 1 j2 0) from (f234.1 1 j2 (0) (by decide) (by decide)).trans (show gV τ92 1 j2 0 = (gV σ 1 j2 0) from (f94.1 1 j2 (0) (by decide) (by decide)).trans (show gV τ65 1 j2 0 = (gV σ 1 j2 0) from (f67.1 1 j2 (0) (by decide) (by decide)).trans (show gV τ46 1 j2 0 = (gV σ 1 j2 0) from (f48.1 1 j2 (0) (by decide) (by decide)).trans (show gV τ24 1 j2 0 = (gV σ 1 j2 0) from (f26.1 1 j2 (0) (by decide) (by decide)).trans (show gV τ7 1 j2 0 = (gV σ 1 j2 0) from (f9.1 1 j2 (0) (by decide) (by decide)).trans rfl))))))))
                        have q271 : (gV τ259 1 j2 2).toInt = (gV σ 1 j2 2).toInt := congrArg Int32.toInt (show (gV τ259 1 j2 2) = (gV σ 1 j2 2) from (show gV τ259 1 j2 2 = (gV σ 1 j2 2) from (f261.1 1 j2 (2) (by decide) (by decide)).trans (show gV τ232 1 j2 2 = (gV σ 1 j2 2) from (f234.1 1 j2 (2) (by decide) (by decide)).trans (show gV τ92 1 j2 2 = (gV σ 1 j2 2) from (f94.1 1 j2 (2) (by decide) (by decide)).trans (show gV τ65 1 j2 2 = (gV σ 1 j2 2) from (f67.1 1 j2 (2) (by decide) (by decide)).trans (show gV τ46 1 j2 2 = (gV σ 1 j2 2) from (f48.1 1 j2 (2) (by decide) (by decide)).trans (show gV τ24 1 j2 2 = (gV σ 1 j2 2) from (f26.1 1 j2 (2) (by decide) (by decide)).trans (show gV τ7 1 j2 2 = (gV σ 1 j2 2) from (f9.1 1 j2 (2) (by decide) (by decide)).trans rfl))))))))
                        have q272 : (gV τ259 12 0 2).toInt = (gV τ232 12 0 2).toInt := congrArg Int32.toInt (show (gV τ259 12 0 2) = (gV τ232 12 0 2) from (show gV τ259 12 0 2 = (gV τ232 12 0 2) from (f261.1 12 0 (2) (by decide) (by decide)).trans rfl))
                        have q273 : (gV τ259 12 0 3).toInt = (gV τ232 12 0 3).toInt := congrArg Int32.toInt (show (gV τ259 12 0 3) = (gV τ232 12 0 3) from (show gV τ259 12 0 3 = (gV τ232 12 0 3) from (f261.1 12 0 (3) (by decide) (by decide)).trans rfl))
                        have q274 : (gV τ259 12 0 4).toInt = (gV τ232 12 0 4).toInt := congrArg Int32.toInt (show (gV τ259 12 0 4) = (gV τ232 12 0 4) from (show gV τ259 12 0 4 = (gV τ232 12 0 4) from (f261.1 12 0 (4) (by decide) (by decide)).trans rfl))
                        have q275 : (gV τ259 12 0 5).toInt = (gV τ232 12 0 5).toInt := congrArg Int32.toInt (show (gV τ259 12 0 5) = (gV τ232 12 0 5) from (show gV τ259 12 0 5 = (gV τ232 12 0 5) from (f261.1 12 0 (5) (by decide) (by decide)).trans rfl))
                        have q276 : (gV τ259 12 0 6).toInt = (gV τ232 12 0 6).toInt := congrArg Int32.toInt (show (gV τ259 12 0 6) = (gV τ232 12 0 6) from (show gV τ259 12 0 6 = (gV τ232 12 0 6) from (f261.1 12 0 (6) (by decide) (by decide)).trans rfl))
                        have q277 : (gV τ259 12 0 7).toInt = (gV τ232 12 0 7).toInt := congrArg Int32.toInt (show (gV τ259 12 0 7) = (gV τ232 12 0 7) from (show gV τ259 12 0 7 = (gV τ232 12 0 7) from (f261.1 12 0 (7) (by decide) (by decide)).trans rfl))
                        obtain ⟨x262q, rfl, x262m, x262g, x262p⟩ := h265
                        have v278 : PGr σ τ259 := v241.trans x262g
                        have v279 : PrC τ259 j2 cc.toNat (PP T N) := v242.fr f261 x262g (by decide)
                        show MW p l e _ s m args below meth c _ 7 G 1 3 136 [some (.ref (G.1 12 0)), some (.ref (G.1 1 j2)), some (.int x27), some (.int x68), some (.int x95), some (.int 0), some (.int x235)] [.ref x262q, .ref (G.1 1 j2)] τ259
                        refine m_iload C dX6_readPerson_136 rfl ?_
                        refine m_if_eq (tgt := 145) C dX6_readPerson_138 (by decide) (fun c280 => ?_) (fun c280 => ?_)
                        · have f281 : 0 = 0 := by
                            have q : _ := c280
                            simp only [ti_nle, ti_nlt, ti_le, ti_lt, ti_eq, ti_ne, Classical.not_not, kt_0, kt_0] at q
                            omega
                          refine m_iload C dX6_readPerson_145 rfl ?_
                          refine m_callV (n := 2) (ci := 7) (st := []) C (c_X8_addPersonS l G τ259 (j := j2) hj2 x262q (x235) i260 x262m) (by decide) hj2 rfl rfl rfl q2_235 q2_232 q2_233 q2_234 q1_3 (by decide +kernel) rfl (by decide) (by decide) rfl (Nat.le_of_ble_eq_true rfl) dX6_readPerson_147 ?_
                          rintro _ τ282 ⟨rfl, i283, f284, h288⟩
                          obtain ⟨h288, h288t0⟩ := h288
                          have g287 : Fr MS_X6_readPersonS AS_X6_readPersonS σ τ282 := Fr.call (g264) f284 (by decide)
                          have v290 : PeC τ259 x262q cc.toNat (PP T N cc.toNat) := by
                            unfold PP
                            rw [hpp.1, ← (show x27.toInt = tQ T N (tE T N i) by omega), ← (show x68.toInt = tV T (tE T N (tE T N i)) by omega), ← (show x95.toInt = tV T (tE T N (tE T N (tE T N i))) by omega), show cc.toNat = (gV σ 1 j2 2).toInt.toNat by omega]
                            exact x262p
                          have v291 : ADP τ259 τ282 j2 cc.toNat x262q := by have q := h288t0 (by omega); rw [show (gV τ259 1 j2 2).toInt.toNat = cc.toNat by omega] at q; exact q
                          have v289 : PrC τ282 j2 (cc.toNat + 1) (PP T N) := v279.more v291 (PGr.fr f284 (by decide)) v290
                          have v292 : TpC τ282 T N := v266.fr f284 (by decide) (by decide) (by simp) (by decide)
                          have v293 : SFd j2 σ τ282 := v267.trans (h288t0 (by omega)).1
                          have v294 : x262q ∈ τ282.2.2.2.1 := by rw [f284.2.2 (by decide)]; exact x262m
                          have v295 : PGr σ τ282 := v278.trans (PGr.fr f284 (by decide))
                          have u297 : IV (gV τ282 1 j2 2) 0 7 := i283.1 1 j2 2
                          have q298 : (gV τ282 1 j2 0).toInt = (gV σ 1 j2 0).toInt := congrArg Int32.toInt (show (gV τ282 1 j2 0) = (gV σ 1 j2 0) from (show gV τ282 1 j2 0 = (gV σ 1 j2 0) from (f284.1 1 j2 (0) (by decide) (by decide)).trans (show gV τ259 1 j2 0 = (gV σ 1 j2 0) from (f261.1 1 j2 (0) (by decide) (by decide)).trans (show gV τ232 1 j2 0 = (gV σ 1 j2 0) from (f234.1 1 j2 (0) (by decide) (by decide)).trans (show gV τ92 1 j2 0 = (gV σ 1 j2 0) from (f94.1 1 j2 (0) (by decide) (by decide)).trans (show gV τ65 1 j2 0 = (gV σ 1 j2 0) from (f67.1 1 j2 (0) (by decide) (by decide)).trans (show gV τ46 1 j2 0 = (gV σ 1 j2 0) from (f48.1 1 j2 (0) (by decide) (by decide)).trans (show gV τ24 1 j2 0 = (gV σ 1 j2 0) from (f26.1 1 j2 (0) (by decide) (by decide)).trans (show gV τ7 1 j2 0 = (gV σ 1 j2 0) from (f9.1 1 j2 (0) (by decide) (by decide)).trans rfl)))))))))
                          have q299 : (gV τ282 12 0 2).toInt = (gV τ232 12 0 2).toInt := congrArg Int32.toInt (show (gV τ282 12 0 2) = (gV τ232 12 0 2) from (show gV τ282 12 0 2 = (gV τ232 12 0 2) from (f284.1 12 0 (2) (by decide) (by decide)).trans (show gV τ259 12 0 2 = (gV τ232 12 0 2) from (f261.1 12 0 (2) (by decide) (by decide)).trans rfl)))
                          have q300 : (gV τ282 12 0 3).toInt = (gV τ232 12 0 3).toInt := congrArg Int32.toInt (show (gV τ282 12 0 3) = (gV τ232 12 0 3) from (show gV τ282 12 0 3 = (gV τ232 12 0 3) from (f284.1 12 0 (3) (by decide) (by decide)).trans (show gV τ259 12 0 3 = (gV τ232 12 0 3) from (f261.1 12 0 (3) (by decide) (by decide)).trans rfl)))
                          have q301 : (gV τ282 12 0 4).toInt = (gV τ232 12 0 4).toInt := congrArg Int32.toInt (show (gV τ282 12 0 4) = (gV τ232 12 0 4) from (show gV τ282 12 0 4 = (gV τ232 12 0 4) from (f284.1 12 0 (4) (by decide) (by decide)).trans (show gV τ259 12 0 4 = (gV τ232 12 0 4) from (f261.1 12 0 (4) (by decide) (by decide)).trans rfl)))
                          have q302 : (gV τ282 12 0 5).toInt = (gV τ232 12 0 5).toInt := congrArg Int32.toInt (show (gV τ282 12 0 5) = (gV τ232 12 0 5) from (show gV τ282 12 0 5 = (gV τ232 12 0 5) from (f284.1 12 0 (5) (by decide) (by decide)).trans (show gV τ259 12 0 5 = (gV τ232 12 0 5) from (f261.1 12 0 (5) (by decide) (by decide)).trans rfl)))
                          have q303 : (gV τ282 12 0 6).toInt = (gV τ232 12 0 6).toInt := congrArg Int32.toInt (show (gV τ282 12 0 6) = (gV τ232 12 0 6) from (show gV τ282 12 0 6 = (gV τ232 12 0 6) from (f284.1 12 0 (6) (by decide) (by decide)).trans (show gV τ259 12 0 6 = (gV τ232 12 0 6) from (f261.1 12 0 (6) (by decide) (by decide)).trans rfl)))
                          have q304 : (gV τ282 12 0 7).toInt = (gV τ232 12 0 7).toInt := congrArg Int32.toInt (show (gV τ282 12 0 7) = (gV τ232 12 0 7) from (show gV τ282 12 0 7 = (gV τ232 12 0 7) from (f284.1 12 0 (7) (by decide) (by decide)).trans (show gV τ259 12 0 7 = (gV τ232 12 0 7) from (f261.1 12 0 (7) (by decide) (by decide)).trans rfl)))
                          show MW p l e _ s m args below meth c _ 7 G 1 3 150 [some (.ref (G.1 12 0)), some (.ref (G.1 1 j2)), some (.int x27), some (.int x68), some (.int x95), some (.int 0), some (.int x235)] [] τ282
                          refine m_aload_n C dX6_readPerson_150 rfl rfl ?_
                          refine m_callV (n := 0) (ci := 5) (st := []) C (c_X6_passSemicolonE l G τ282 T N (tE T N (tE T N (tE T N (tE T N (tE T N i)))))  i283 v292 (by omega)) (by decide) (by decide) rfl rfl rfl q2_149 q2_146 q2_148 q0_10 q1_2 (by decide +kernel) rfl (by decide) (by decide) rfl (Nat.le_of_ble_eq_true rfl) dX6_readPerson_151 ?_
                          rintro _ τ305 ⟨x308, rfl, i306, f307, b309, h311⟩
                          have g310 : Fr MS_X6_readPersonS AS_X6_readPersonS σ τ305 := Fr.call (g287) f307 (by decide)
                          clear h238_5
                          have v312 : TpC τ305 T N := v292.fr f307 (by decide) (by decide) (by simp) (by decide)
                          have v313 : SFd j2 σ τ305 := v293.fr f307 (by decide) (by decide)
                          have v314 : x262q ∈ τ305.2.2.2.1 := by rw [f307.2.2 (by decide)]; exact v294
                          have v315 : PGr σ τ305 := v295.trans (PGr.fr f307 (by decide))
                          have v316 : PrC τ305 j2 (cc.toNat + 1) (PP T N) := v289.fr f307 (PGr.fr f307 (by decide)) (by decide)
                          have u317 : IV (gV τ305 12 0 4) 0 400 := i306.1 12 0 4
                          have u318 : IV (gV τ305 12 0 5) 0 400 := i306.1 12 0 5
                          have q319 : (gV τ305 1 j2 0).toInt = (gV σ 1 j2 0).toInt := congrArg Int32.toInt (show (gV τ305 1 j2 0) = (gV σ 1 j2 0) from (show gV τ305 1 j2 0 = (gV σ 1 j2 0) from (f307.1 1 j2 (0) (by decide) (by decide)).trans (show gV τ282 1 j2 0 = (gV σ 1 j2 0) from (f284.1 1 j2 (0) (by decide) (by decide)).trans (show gV τ259 1 j2 0 = (gV σ 1 j2 0) from (f261.1 1 j2 (0) (by decide) (by decide)).trans (show gV τ232 1 j2 0 = (gV σ 1 j2 0) from (f234.1 1 j2 (0) (by decide) (by decide)).trans (show gV τ92 1 j2 0 = (gV σ 1 j2 0) from (f94.1 1 j2 (0) (by decide) (by decide)).trans (show gV τ65 1 j2 0 = (gV σ 1 j2 0) from (f67.1 1 j2 (0) (by decide) (by decide)).trans (show gV τ46 1 j2 0 = (gV σ 1 j2 0) from (f48.1 1 j2 (0) (by decide) (by decide)).trans (show gV τ24 1 j2 0 = (gV σ 1 j2 0) from (f26.1 1 j2 (0) (by decide) (by decide)).trans (show gV τ7 1 j2 0 = (gV σ 1 j2 0) from (f9.1 1 j2 (0) (by decide) (by decide)).trans rfl))))))))))
                          have q320 : (gV τ305 1 j2 2).toInt = (gV τ282 1 j2 2).toInt := congrArg Int32.toInt (show (gV τ305 1 j2 2) = (gV τ282 1 j2 2) from (show gV τ305 1 j2 2 = (gV τ282 1 j2 2) from (f307.1 1 j2 (2) (by decide) (by decide)).trans rfl))
                          rcases h311 with ⟨h311_0, h311_1, h311_2, h311_3⟩ | ⟨h311_0, h311_1, h311_2, h311_3⟩
                          · skip
                            have b321 : IV x308 0 0 := ⟨by omega, by omega⟩
                            show MW p l e _ s m args below meth c _ 7 G 1 3 154 [some (.ref (G.1 12 0)), some (.ref (G.1 1 j2)), some (.int x27), some (.int x68), some (.int x95), some (.int 0), some (.int x235)] [.int x308] τ305
                            exact m_zret C hr (nar_z (iv_wk b321 (by decide))) hlk (by decide) (by decide) dX6_readPerson_154 ⟨_, rfl, i306, g310, (iv_wk b321 (by decide)), ⟨(by have qd := per_8 T N st cc i (by omega) (by omega) (by omega) (by omega) (by omega) (by omega) (by omega) (by omega) (by omega); refine Or.inl ⟨by omega, by omega, by omega, by omega⟩), v313, v315, (fun h => absurd h (by omega))⟩⟩
                          · skip
                            have b322 : IV x308 1 1 := ⟨by omega, by omega⟩
                            show MW p l e _ s m args below meth c _ 7 G 1 3 154 [some (.ref (G.1 12 0)), some (.ref (G.1 1 j2)), some (.int x27), some (.int x68), some (.int x95), some (.int 0), some (.int x235)] [.int x308] τ305
                            exact m_zret C hr (nar_z (iv_wk b322 (by decide))) hlk (by decide) (by decide) dX6_readPerson_154 ⟨_, rfl, i306, g310, (iv_wk b322 (by decide)), ⟨(by have qd := per_ok T N st cc i (by omega) (by omega) (by omega) (by omega) (by omega) (by omega) (by omega) (by omega) (by omega); refine Or.inr ⟨by omega, by omega, by omega, by omega, by omega⟩), v313, v315, (fun _ => v316.cast (by omega))⟩⟩
                        · first | exact absurd c280 (by decide) | exact absurd (by decide) c280
                      · have f324 : x235.toInt = -1 := by
                          have q : _ := c255
                          simp only [ti_nle, ti_nlt, ti_le, ti_lt, ti_eq, ti_ne, Classical.not_not, kt_m1] at q
                          omega
                        have b325 : IV x235 (-1) (-1) := ⟨by have q1 := b236; have q2 := kc_m1; omega, by have q1 := b236; have q2 := kc_m1; omega⟩
                        refine m_iconst (v := 0) C dX6_readPerson_122 (by decide) ?_
                        exact m_zret C hr rfl hlk (by decide) (by decide) dX6_readPerson_123 ⟨_, rfl, i233, g237, (iv_wk kc_0 (by decide)), ⟨(by have qd := per_ok T N st cc i (by omega) (by omega) (by omega) (by omega) (by omega) (by omega) (by omega) (by omega) (by omega); have qk := kt_0; refine Or.inl ⟨by omega, by omega, by omega, by omega⟩), v240, v241, (fun h => absurd h (by have qk := kt_0; omega))⟩⟩
                  · first | exact absurd c225 (by decide) | exact absurd (by decide) c225
                · have f327 : (gV τ92 12 0 7).toInt = 99 := by
                    have q : _ := c223
                    simp only [ti_nle, ti_nlt, ti_le, ti_lt, ti_eq, ti_ne, Classical.not_not, kt_99] at q
                    omega
                  have b328 : IV (gV τ92 12 0 7) 99 99 := ⟨by have q1 := (iv_any (gV τ92 12 0 7)); have q2 := kc_99; omega, by have q1 := (iv_any (gV τ92 12 0 7)); have q2 := kc_99; omega⟩
                  refine m_iconst (v := 1) C dX6_readPerson_86 (by decide) ?_
                  refine m_goto (tgt := 91) C dX6_readPerson_87 (by decide) ?_
                  refine m_istore (L1 := [some (.ref (G.1 12 0)), some (.ref (G.1 1 j2)), some (.int x27), some (.int x68), some (.int x95), some (.int 1), none]) C dX6_readPerson_91 (by decide) rfl rfl ?_
                  refine m_aload_n C dX6_readPerson_93 rfl rfl ?_
                  refine m_iconst (v := 0) C dX6_readPerson_94 (by decide) ?_
                  refine m_iload C dX6_readPerson_95 rfl ?_
                  refine m_if_eq (tgt := 105) C dX6_readPerson_97 (by decide) (fun c329 => ?_) (fun c329 => ?_)
                  · first | exact absurd c329 (by decide) | exact absurd (by decide) c329
                  · have f331 : 1 ≠ 0 := by
                      have q : _ := c329
                      simp only [ti_nle, ti_nlt, ti_le, ti_lt, ti_eq, ti_ne, Classical.not_not, kt_1, kt_0] at q
                      omega
                    have q332 : tK T N (tE T N (tE T N (tE T N (tE T N i)))) = 2 ∧ tV T (tE T N (tE T N (tE T N (tE T N i)))) = 99 := by omega
                    refine m_bipush (v := 99) C dX6_readPerson_100 (by decide) ?_
                    refine m_goto (tgt := 111) C dX6_readPerson_102 (by decide) ?_
                    have q333 := kt_0
                    have q334 := kt_99
                    refine m_callV (n := 2) (ci := 5) (st := []) C (c_X6_numberE l G τ92 T N (tE T N (tE T N (tE T N (tE T N i)))) (0) (99) i93 v99 (by omega)) (by decide) (by decide) rfl rfl rfl q2_145 q2_142 q2_144 q0_9 q1_2 (by decide +kernel) rfl (by decide) (by decide) rfl (Nat.le_of_ble_eq_true rfl) dX6_readPerson_111 ?_
                    rintro _ τ335 ⟨x338, rfl, i336, f337, b339, h341⟩
                    have g340 : Fr MS_X6_readPersonS AS_X6_readPersonS σ τ335 := Fr.call (g97) f337 (by decide)
                    clear h98_5
                    have v342 : TpC τ335 T N := v99.fr f337 (by decide) (by decide) (by simp) (by decide)
                    have v343 : SFd j2 σ τ335 := v100.fr f337 (by decide) (by decide)
                    have v344 : PGr σ τ335 := v101.trans (PGr.fr f337 (by decide))
                    have v345 : PrC τ335 j2 cc.toNat (PP T N) := v102.fr f337 (PGr.fr f337 (by decide)) (by decide)
                    have u346 : IV (gV τ335 12 0 4) 0 400 := i336.1 12 0 4
                    have u347 : IV (gV τ335 12 0 5) 0 400 := i336.1 12 0 5
                    have q348 : (gV τ335 1 j2 0).toInt = (gV σ 1 j2 0).toInt := congrArg Int32.toInt (show (gV τ335 1 j2 0) = (gV σ 1 j2 0) from (show gV τ335 1 j2 0 = (gV σ 1 j2 0) from (f337.1 1 j2 (0) (by decide) (by decide)).trans (show gV τ92 1 j2 0 = (gV σ 1 j2 0) from (f94.1 1 j2 (0) (by decide) (by decide)).trans (show gV τ65 1 j2 0 = (gV σ 1 j2 0) from (f67.1 1 j2 (0) (by decide) (by decide)).trans (show gV τ46 1 j2 0 = (gV σ 1 j2 0) from (f48.1 1 j2 (0) (by decide) (by decide)).trans (show gV τ24 1 j2 0 = (gV σ 1 j2 0) from (f26.1 1 j2 (0) (by decide) (by decide)).trans (show gV τ7 1 j2 0 = (gV σ 1 j2 0) from (f9.1 1 j2 (0) (by decide) (by decide)).trans rfl)))))))
                    have q349 : (gV τ335 1 j2 2).toInt = (gV σ 1 j2 2).toInt := congrArg Int32.toInt (show (gV τ335 1 j2 2) = (gV σ 1 j2 2) from (show gV τ335 1 j2 2 = (gV σ 1 j2 2) from (f337.1 1 j2 (2) (by decide) (by decide)).trans (show gV τ92 1 j2 2 = (gV σ 1 j2 2) from (f94.1 1 j2 (2) (by decide) (by decide)).trans (show gV τ65 1 j2 2 = (gV σ 1 j2 2) from (f67.1 1 j2 (2) (by decide) (by decide)).trans (show gV τ46 1 j2 2 = (gV σ 1 j2 2) from (f48.1 1 j2 (2) (by decide) (by decide)).trans (show gV τ24 1 j2 2 = (gV σ 1 j2 2) from (f26.1 1 j2 (2) (by decide) (by decide)).trans (show gV τ7 1 j2 2 = (gV σ 1 j2 2) from (f9.1 1 j2 (2) (by decide) (by decide)).trans rfl)))))))
                    rcases h341 with ⟨h341_0, h341_1, h341_2, h341_3⟩ | ⟨h341_0, h341_1, h341_2, h341_3, h341_4⟩ | ⟨h341_0, h341_1, h341_2, h341_3, h341_4, h341_5⟩
                    · skip
                      have b350 : IV x338 (-1) (-1) := ⟨by omega, by omega⟩
                      show MW p l e _ s m args below meth c _ 7 G 0 0 114 [some (.ref (G.1 12 0)), some (.ref (G.1 1 j2)), some (.int x27), some (.int x68), some (.int x95), some (.int 1), none] [.int x338] τ335
                      refine m_istore (L1 := [some (.ref (G.1 12 0)), some (.ref (G.1 1 j2)), some (.int x27), some (.int x68), some (.int x95), some (.int 1), some (.int x338)]) C dX6_readPerson_114 (by decide) rfl rfl ?_
                      refine m_iload C dX6_readPerson_116 rfl ?_
                      refine m_iconst (v := (-1)) C dX6_readPerson_118 (by decide) ?_
                      refine m_icmp_ne (tgt := 124) C dX6_readPerson_119 (by decide) (fun c351 => ?_) (fun c351 => ?_)
                      · exfalso
                        have q : _ := c351
                        simp only [ti_nle, ti_nlt, ti_le, ti_lt, ti_eq, ti_ne, Classical.not_not, kt_m1] at q
                        have q1 := b350; have q2 := kc_m1; omega
                      · have f353 : x338.toInt = -1 := by
                          have q : _ := c351
                          simp only [ti_nle, ti_nlt, ti_le, ti_lt, ti_eq, ti_ne, Classical.not_not, kt_m1] at q
                          omega
                        refine m_iconst (v := 0) C dX6_readPerson_122 (by decide) ?_
                        exact m_zret C hr rfl hlk (by decide) (by decide) dX6_readPerson_123 ⟨_, rfl, i336, g340, (iv_wk kc_0 (by decide)), ⟨(by have qd := per_6 T N st cc i (by omega) (by omega) (by omega) (by omega) (by omega) (by omega) (by omega); have qk := kt_0; refine Or.inl ⟨by omega, by omega, by omega, by omega⟩), v343, v344, (fun h => absurd h (by have qk := kt_0; omega))⟩⟩
                    · skip
                      have b354 : IV x338 (-1) (-1) := ⟨by omega, by omega⟩
                      show MW p l e _ s m args below meth c _ 7 G 0 0 114 [some (.ref (G.1 12 0)), some (.ref (G.1 1 j2)), some (.int x27), some (.int x68), some (.int x95), some (.int 1), none] [.int x338] τ335
                      refine m_istore (L1 := [some (.ref (G.1 12 0)), some (.ref (G.1 1 j2)), some (.int x27), some (.int x68), some (.int x95), some (.int 1), some (.int x338)]) C dX6_readPerson_114 (by decide) rfl rfl ?_
                      refine m_iload C dX6_readPerson_116 rfl ?_
                      refine m_iconst (v := (-1)) C dX6_readPerson_118 (by decide) ?_
                      refine m_icmp_ne (tgt := 124) C dX6_readPerson_119 (by decide) (fun c355 => ?_) (fun c355 => ?_)
                      · exfalso
                        have q : _ := c355
                        simp only [ti_nle, ti_nlt, ti_le, ti_lt, ti_eq, ti_ne, Classical.not_not, kt_m1] at q
                        have q1 := b354; have q2 := kc_m1; omega
                      · have f357 : x338.toInt = -1 := by
                          have q : _ := c355
                          simp only [ti_nle, ti_nlt, ti_le, ti_lt, ti_eq, ti_ne, Classical.not_not, kt_m1] at q
                          omega
                        refine m_iconst (v := 0) C dX6_readPerson_122 (by decide) ?_
                        exact m_zret C hr rfl hlk (by decide) (by decide) dX6_readPerson_123 ⟨_, rfl, i336, g340, (iv_wk kc_0 (by decide)), ⟨(by have qd := per_7 T N st cc i (by omega) (by omega) (by omega) (by omega) (by omega) (by omega) (by omega) (by omega); have qk := kt_0; refine Or.inl ⟨by omega, by omega, by omega, by omega⟩), v343, v344, (fun h => absurd h (by have qk := kt_0; omega))⟩⟩
                    · skip
                      show MW p l e _ s m args below meth c _ 7 G 0 0 114 [some (.ref (G.1 12 0)), some (.ref (G.1 1 j2)), some (.int x27), some (.int x68), some (.int x95), some (.int 1), none] [.int x338] τ335
                      refine m_istore (L1 := [some (.ref (G.1 12 0)), some (.ref (G.1 1 j2)), some (.int x27), some (.int x68), some (.int x95), some (.int 1), some (.int x338)]) C dX6_readPerson_114 (by decide) rfl rfl ?_
                      refine m_iload C dX6_readPerson_116 rfl ?_
                      refine m_iconst (v := (-1)) C dX6_readPerson_118 (by decide) ?_
                      refine m_icmp_ne (tgt := 124) C dX6_readPerson_119 (by decide) (fun c358 => ?_) (fun c358 => ?_)
                      · have f359 : x338.toInt ≠ -1 := by
                          have q : _ := c358
                          simp only [ti_nle, ti_nlt, ti_le, ti_lt, ti_eq, ti_ne, Classical.not_not, kt_m1] at q
                          omega
                        refine m_aload_n C dX6_readPerson_124 rfl rfl ?_
                        refine m_iload_n C dX6_readPerson_125 rfl rfl ?_
                        refine m_aload_n C dX6_readPerson_126 rfl rfl ?_
                        refine g_1_2 C hj2 q1_81 dX6_readPerson_127 ?_
                        refine m_eqs (w := (gV σ 1 j2 2)) (show gV τ335 1 j2 2 = (gV σ 1 j2 2) from (f337.1 1 j2 (2) (by decide) (by decide)).trans (show gV τ92 1 j2 2 = (gV σ 1 j2 2) from (f94.1 1 j2 (2) (by decide) (by decide)).trans (show gV τ65 1 j2 2 = (gV σ 1 j2 2) from (f67.1 1 j2 (2) (by decide) (by decide)).trans (show gV τ46 1 j2 2 = (gV σ 1 j2 2) from (f48.1 1 j2 (2) (by decide) (by decide)).trans (show gV τ24 1 j2 2 = (gV σ 1 j2 2) from (f26.1 1 j2 (2) (by decide) (by decide)).trans (show gV τ7 1 j2 2 = (gV σ 1 j2 2) from (f9.1 1 j2 (2) (by decide) (by decide)).trans rfl)))))) ?_
                        refine m_iload_n C dX6_readPerson_130 rfl rfl ?_
                        refine m_iload C dX6_readPerson_131 rfl ?_
                        have b360 : IV x95 1 4 := ⟨by have q1 := b96; omega, by have q1 := b96; omega⟩
                        have b361 : IV x68 1 20 := ⟨by have q1 := b69; omega, by have q1 := b69; omega⟩
                        refine m_callS (n := 4) (st := [.ref (G.1 1 j2)]) C (c_X6_newPersonS l G τ335 (x27) ((gV σ 1 j2 2)) (x68) (x95) i336 b45 b6 b361 b360) q2_166 q2_164 q2_165 q1_2 (by decide +kernel) rfl (by decide) (by decide) rfl (Nat.le_of_ble_eq_true rfl) dX6_readPerson_133 ?_
                        rintro _ τ362 ⟨x365, rfl, i363, f364, h368⟩
                        have g367 : Fr MS_X6_readPersonS AS_X6_readPersonS σ τ362 := Fr.call (g340) f364 (by decide)
                        have v369 : TpC τ362 T N := v342.fr f364 (by decide) (by decide) (by simp) (by decide)
                        have v370 : SFd j2 σ τ362 := v343.fr f364 (by decide) (by decide)
                        have q373 : (gV τ362 1 j2 0).toInt = (gV σ 1 j2 0).toInt := congrArg Int32.toInt (show (gV τ362 1 j2 0) = (gV σ 1 j2 0) from (show gV τ362 1 j2 0 = (gV σ 1 j2 0) from (f364.1 1 j2 (0) (by decide) (by decide)).trans (show gV τ335 1 j2 0 = (gV σ 1 j2 0) from (f337.1 1 j2 (0) (by decide) (by decide)).trans (show gV τ92 1 j2 0 = (gV σ 1 j2 0) from (f94.1 1 j2 (0) (by decide) (by decide)).trans (show gV τ65 1 j2 0 = (gV σ 1 j2 0) from (f67.1 1 j2 (0) (by decide) (by decide)).trans (show gV τ46 1 j2 0 = (gV σ 1 j2 0) from (f48.1 1 j2 (0) (by decide) (by decide)).trans (show gV τ24 1 j2 0 = (gV σ 1 j2 0) from (f26.1 1 j2 (0) (by decide) (by decide)).trans (show gV τ7 1 j2 0 = (gV σ 1 j2 0) from (f9.1 1 j2 (0) (by decide) (by decide)).trans rfl))))))))
                        have q374 : (gV τ362 1 j2 2).toInt = (gV σ 1 j2 2).toInt := congrArg Int32.toInt (show (gV τ362 1 j2 2) = (gV σ 1 j2 2) from (show gV τ362 1 j2 2 = (gV σ 1 j2 2) from (f364.1 1 j2 (2) (by decide) (by decide)).trans (show gV τ335 1 j2 2 = (gV σ 1 j2 2) from (f337.1 1 j2 (2) (by decide) (by decide)).trans (show gV τ92 1 j2 2 = (gV σ 1 j2 2) from (f94.1 1 j2 (2) (by decide) (by decide)).trans (show gV τ65 1 j2 2 = (gV σ 1 j2 2) from (f67.1 1 j2 (2) (by decide) (by decide)).trans (show gV τ46 1 j2 2 = (gV σ 1 j2 2) from (f48.1 1 j2 (2) (by decide) (by decide)).trans (show gV τ24 1 j2 2 = (gV σ 1 j2 2) from (f26.1 1 j2 (2) (by decide) (by decide)).trans (show gV τ7 1 j2 2 = (gV σ 1 j2 2) from (f9.1 1 j2 (2) (by decide) (by decide)).trans rfl))))))))
                        have q375 : (gV τ362 12 0 2).toInt = (gV τ335 12 0 2).toInt := congrArg Int32.toInt (show (gV τ362 12 0 2) = (gV τ335 12 0 2) from (show gV τ362 12 0 2 = (gV τ335 12 0 2) from (f364.1 12 0 (2) (by decide) (by decide)).trans rfl))
                        have q376 : (gV τ362 12 0 3).toInt = (gV τ335 12 0 3).toInt := congrArg Int32.toInt (show (gV τ362 12 0 3) = (gV τ335 12 0 3) from (show gV τ362 12 0 3 = (gV τ335 12 0 3) from (f364.1 12 0 (3) (by decide) (by decide)).trans rfl))
                        have q377 : (gV τ362 12 0 4).toInt = (gV τ335 12 0 4).toInt := congrArg Int32.toInt (show (gV τ362 12 0 4) = (gV τ335 12 0 4) from (show gV τ362 12 0 4 = (gV τ335 12 0 4) from (f364.1 12 0 (4) (by decide) (by decide)).trans rfl))
                        have q378 : (gV τ362 12 0 5).toInt = (gV τ335 12 0 5).toInt := congrArg Int32.toInt (show (gV τ362 12 0 5) = (gV τ335 12 0 5) from (show gV τ362 12 0 5 = (gV τ335 12 0 5) from (f364.1 12 0 (5) (by decide) (by decide)).trans rfl))
                        have q379 : (gV τ362 12 0 6).toInt = (gV τ335 12 0 6).toInt := congrArg Int32.toInt (show (gV τ362 12 0 6) = (gV τ335 12 0 6) from (show gV τ362 12 0 6 = (gV τ335 12 0 6) from (f364.1 12 0 (6) (by decide) (by decide)).trans rfl))
                        have q380 : (gV τ362 12 0 7).toInt = (gV τ335 12 0 7).toInt := congrArg Int32.toInt (show (gV τ362 12 0 7) = (gV τ335 12 0 7) from (show gV τ362 12 0 7 = (gV τ335 12 0 7) from (f364.1 12 0 (7) (by decide) (by decide)).trans rfl))
                        obtain ⟨x365q, rfl, x365m, x365g, x365p⟩ := h368
                        have v381 : PGr σ τ362 := v344.trans x365g
                        have v382 : PrC τ362 j2 cc.toNat (PP T N) := v345.fr f364 x365g (by decide)
                        show MW p l e _ s m args below meth c _ 7 G 1 3 136 [some (.ref (G.1 12 0)), some (.ref (G.1 1 j2)), some (.int x27), some (.int x68), some (.int x95), some (.int 1), some (.int x338)] [.ref x365q, .ref (G.1 1 j2)] τ362
                        refine m_iload C dX6_readPerson_136 rfl ?_
                        refine m_if_eq (tgt := 145) C dX6_readPerson_138 (by decide) (fun c383 => ?_) (fun c383 => ?_)
                        · first | exact absurd c383 (by decide) | exact absurd (by decide) c383
                        · have f385 : 1 ≠ 0 := by
                            have q : _ := c383
                            simp only [ti_nle, ti_nlt, ti_le, ti_lt, ti_eq, ti_ne, Classical.not_not, kt_1, kt_0] at q
                            omega
                          refine m_iconst (v := (-1)) C dX6_readPerson_141 (by decide) ?_
                          refine m_goto (tgt := 147) C dX6_readPerson_142 (by decide) ?_
                          have q386 := kt_m1
                          refine m_callV (n := 2) (ci := 7) (st := []) C (c_X8_addPersonS l G τ362 (j := j2) hj2 x365q ((-1)) i363 x365m) (by decide) hj2 rfl rfl rfl q2_235 q2_232 q2_233 q2_234 q1_3 (by decide +kernel) rfl (by decide) (by decide) rfl (Nat.le_of_ble_eq_true rfl) dX6_readPerson_147 ?_
                          rintro _ τ387 ⟨rfl, i388, f389, h393⟩
                          obtain ⟨h393, h393t0⟩ := h393
                          have g392 : Fr MS_X6_readPersonS AS_X6_readPersonS σ τ387 := Fr.call (g367) f389 (by decide)
                          have v395 : PeC τ362 x365q cc.toNat (PP T N cc.toNat) := by
                            unfold PP
                            rw [hpp.1, ← (show x27.toInt = tQ T N (tE T N i) by omega), ← (show x68.toInt = tV T (tE T N (tE T N i)) by omega), ← (show x95.toInt = tV T (tE T N (tE T N (tE T N i))) by omega), show cc.toNat = (gV σ 1 j2 2).toInt.toNat by omega]
                            exact x365p
                          have v396 : ADP τ362 τ387 j2 cc.toNat x365q := by have q := h393t0 (by omega); rw [show (gV τ362 1 j2 2).toInt.toNat = cc.toNat by omega] at q; exact q
                          have v394 : PrC τ387 j2 (cc.toNat + 1) (PP T N) := v382.more v396 (PGr.fr f389 (by decide)) v395
                          have v397 : TpC τ387 T N := v369.fr f389 (by decide) (by decide) (by simp) (by decide)
                          have v398 : SFd j2 σ τ387 := v370.trans (h393t0 (by omega)).1
                          have v399 : x365q ∈ τ387.2.2.2.1 := by rw [f389.2.2 (by decide)]; exact x365m
                          have v400 : PGr σ τ387 := v381.trans (PGr.fr f389 (by decide))
                          have u402 : IV (gV τ387 1 j2 2) 0 7 := i388.1 1 j2 2
                          have q403 : (gV τ387 1 j2 0).toInt = (gV σ 1 j2 0).toInt := congrArg Int32.toInt (show (gV τ387 1 j2 0) = (gV σ 1 j2 0) from (show gV τ387 1 j2 0 = (gV σ 1 j2 0) from (f389.1 1 j2 (0) (by decide) (by decide)).trans (show gV τ362 1 j2 0 = (gV σ 1 j2 0) from (f364.1 1 j2 (0) (by decide) (by decide)).trans (show gV τ335 1 j2 0 = (gV σ 1 j2 0) from (f337.1 1 j2 (0) (by decide) (by decide)).trans (show gV τ92 1 j2 0 = (gV σ 1 j2 0) from (f94.1 1 j2 (0) (by decide) (by decide)).trans (show gV τ65 1 j2 0 = (gV σ 1 j2 0) from (f67.1 1 j2 (0) (by decide) (by decide)).trans (show gV τ46 1 j2 0 = (gV σ 1 j2 0) from (f48.1 1 j2 (0) (by decide) (by decide)).trans (show gV τ24 1 j2 0 = (gV σ 1 j2 0) from (f26.1 1 j2 (0) (by decide) (by decide)).trans (show gV τ7 1 j2 0 = (gV σ 1 j2 0) from (f9.1 1 j2 (0) (by decide) (by decide)).trans rfl)))))))))
                          have q404 : (gV τ387 12 0 2).toInt = (gV τ335 12 0 2).toInt := congrArg Int32.toInt (show (gV τ387 12 0 2) = (gV τ335 12 0 2) from (show gV τ387 12 0 2 = (gV τ335 12 0 2) from (f389.1 12 0 (2) (by decide) (by decide)).trans (show gV τ362 12 0 2 = (gV τ335 12 0 2) from (f364.1 12 0 (2) (by decide) (by decide)).trans rfl)))
                          have q405 : (gV τ387 12 0 3).toInt = (gV τ335 12 0 3).toInt := congrArg Int32.toInt (show (gV τ387 12 0 3) = (gV τ335 12 0 3) from (show gV τ387 12 0 3 = (gV τ335 12 0 3) from (f389.1 12 0 (3) (by decide) (by decide)).trans (show gV τ362 12 0 3 = (gV τ335 12 0 3) from (f364.1 12 0 (3) (by decide) (by decide)).trans rfl)))
                          have q406 : (gV τ387 12 0 4).toInt = (gV τ335 12 0 4).toInt := congrArg Int32.toInt (show (gV τ387 12 0 4) = (gV τ335 12 0 4) from (show gV τ387 12 0 4 = (gV τ335 12 0 4) from (f389.1 12 0 (4) (by decide) (by decide)).trans (show gV τ362 12 0 4 = (gV τ335 12 0 4) from (f364.1 12 0 (4) (by decide) (by decide)).trans rfl)))
                          have q407 : (gV τ387 12 0 5).toInt = (gV τ335 12 0 5).toInt := congrArg Int32.toInt (show (gV τ387 12 0 5) = (gV τ335 12 0 5) from (show gV τ387 12 0 5 = (gV τ335 12 0 5) from (f389.1 12 0 (5) (by decide) (by decide)).trans (show gV τ362 12 0 5 = (gV τ335 12 0 5) from (f364.1 12 0 (5) (by decide) (by decide)).trans rfl)))
                          have q408 : (gV τ387 12 0 6).toInt = (gV τ335 12 0 6).toInt := congrArg Int32.toInt (show (gV τ387 12 0 6) = (gV τ335 12 0 6) from (show gV τ387 12 0 6 = (gV τ335 12 0 6) from (f389.1 12 0 (6) (by decide) (by decide)).trans (show gV τ362 12 0 6 = (gV τ335 12 0 6) from (f364.1 12 0 (6) (by decide) (by decide)).trans rfl)))
                          have q409 : (gV τ387 12 0 7).toInt = (gV τ335 12 0 7).toInt := congrArg Int32.toInt (show (gV τ387 12 0 7) = (gV τ335 12 0 7) from (show gV τ387 12 0 7 = (gV τ335 12 0 7) from (f389.1 12 0 (7) (by decide) (by decide)).trans (show gV τ362 12 0 7 = (gV τ335 12 0 7) from (f364.1 12 0 (7) (by decide) (by decide)).trans rfl)))
                          show MW p l e _ s m args below meth c _ 7 G 1 3 150 [some (.ref (G.1 12 0)), some (.ref (G.1 1 j2)), some (.int x27), some (.int x68), some (.int x95), some (.int 1), some (.int x338)] [] τ387
                          refine m_aload_n C dX6_readPerson_150 rfl rfl ?_
                          refine m_callV (n := 0) (ci := 5) (st := []) C (c_X6_passSemicolonE l G τ387 T N (tE T N (tE T N (tE T N (tE T N (tE T N i)))))  i388 v397 (by omega)) (by decide) (by decide) rfl rfl rfl q2_149 q2_146 q2_148 q0_10 q1_2 (by decide +kernel) rfl (by decide) (by decide) rfl (Nat.le_of_ble_eq_true rfl) dX6_readPerson_151 ?_
                          rintro _ τ410 ⟨x413, rfl, i411, f412, b414, h416⟩
                          have g415 : Fr MS_X6_readPersonS AS_X6_readPersonS σ τ410 := Fr.call (g392) f412 (by decide)
                          clear h341_5
                          have v417 : TpC τ410 T N := v397.fr f412 (by decide) (by decide) (by simp) (by decide)
                          have v418 : SFd j2 σ τ410 := v398.fr f412 (by decide) (by decide)
                          have v419 : x365q ∈ τ410.2.2.2.1 := by rw [f412.2.2 (by decide)]; exact v399
                          have v420 : PGr σ τ410 := v400.trans (PGr.fr f412 (by decide))
                          have v421 : PrC τ410 j2 (cc.toNat + 1) (PP T N) := v394.fr f412 (PGr.fr f412 (by decide)) (by decide)
                          have u422 : IV (gV τ410 12 0 4) 0 400 := i411.1 12 0 4
                          have u423 : IV (gV τ410 12 0 5) 0 400 := i411.1 12 0 5
                          have q424 : (gV τ410 1 j2 0).toInt = (gV σ 1 j2 0).toInt := congrArg Int32.toInt (show (gV τ410 1 j2 0) = (gV σ 1 j2 0) from (show gV τ410 1 j2 0 = (gV σ 1 j2 0) from (f412.1 1 j2 (0) (by decide) (by decide)).trans (show gV τ387 1 j2 0 = (gV σ 1 j2 0) from (f389.1 1 j2 (0) (by decide) (by decide)).trans (show gV τ362 1 j2 0 = (gV σ 1 j2 0) from (f364.1 1 j2 (0) (by decide) (by decide)).trans (show gV τ335 1 j2 0 = (gV σ 1 j2 0) from (f337.1 1 j2 (0) (by decide) (by decide)).trans (show gV τ92 1 j2 0 = (gV σ 1 j2 0) from (f94.1 1 j2 (0) (by decide) (by decide)).trans (show gV τ65 1 j2 0 = (gV σ 1 j2 0) from (f67.1 1 j2 (0) (by decide) (by decide)).trans (show gV τ46 1 j2 0 = (gV σ 1 j2 0) from (f48.1 1 j2 (0) (by decide) (by decide)).trans (show gV τ24 1 j2 0 = (gV σ 1 j2 0) from (f26.1 1 j2 (0) (by decide) (by decide)).trans (show gV τ7 1 j2 0 = (gV σ 1 j2 0) from (f9.1 1 j2 (0) (by decide) (by decide)).trans rfl))))))))))
                          have q425 : (gV τ410 1 j2 2).toInt = (gV τ387 1 j2 2).toInt := congrArg Int32.toInt (show (gV τ410 1 j2 2) = (gV τ387 1 j2 2) from (show gV τ410 1 j2 2 = (gV τ387 1 j2 2) from (f412.1 1 j2 (2) (by decide) (by decide)).trans rfl))
                          rcases h416 with ⟨h416_0, h416_1, h416_2, h416_3⟩ | ⟨h416_0, h416_1, h416_2, h416_3⟩
                          · skip
                            have b426 : IV x413 0 0 := ⟨by omega, by omega⟩
                            show MW p l e _ s m args below meth c _ 7 G 1 3 154 [some (.ref (G.1 12 0)), some (.ref (G.1 1 j2)), some (.int x27), some (.int x68), some (.int x95), some (.int 1), some (.int x338)] [.int x413] τ410
                            exact m_zret C hr (nar_z (iv_wk b426 (by decide))) hlk (by decide) (by decide) dX6_readPerson_154 ⟨_, rfl, i411, g415, (iv_wk b426 (by decide)), ⟨(by have qd := per_8 T N st cc i (by omega) (by omega) (by omega) (by omega) (by omega) (by omega) (by omega) (by omega) (by omega); refine Or.inl ⟨by omega, by omega, by omega, by omega⟩), v418, v420, (fun h => absurd h (by omega))⟩⟩
                          · skip
                            have b427 : IV x413 1 1 := ⟨by omega, by omega⟩
                            show MW p l e _ s m args below meth c _ 7 G 1 3 154 [some (.ref (G.1 12 0)), some (.ref (G.1 1 j2)), some (.int x27), some (.int x68), some (.int x95), some (.int 1), some (.int x338)] [.int x413] τ410
                            exact m_zret C hr (nar_z (iv_wk b427 (by decide))) hlk (by decide) (by decide) dX6_readPerson_154 ⟨_, rfl, i411, g415, (iv_wk b427 (by decide)), ⟨(by have qd := per_ok T N st cc i (by omega) (by omega) (by omega) (by omega) (by omega) (by omega) (by omega) (by omega) (by omega); refine Or.inr ⟨by omega, by omega, by omega, by omega, by omega⟩), v418, v420, (fun _ => v421.cast (by omega))⟩⟩
                      · have f428 : x338.toInt = -1 := by
                          have q : _ := c358
                          simp only [ti_nle, ti_nlt, ti_le, ti_lt, ti_eq, ti_ne, Classical.not_not, kt_m1] at q
                          omega
                        have b429 : IV x338 (-1) (-1) := ⟨by have q1 := b339; have q2 := kc_m1; omega, by have q1 := b339; have q2 := kc_m1; omega⟩
                        refine m_iconst (v := 0) C dX6_readPerson_122 (by decide) ?_
                        exact m_zret C hr rfl hlk (by decide) (by decide) dX6_readPerson_123 ⟨_, rfl, i336, g340, (iv_wk kc_0 (by decide)), ⟨(by have qd := per_ok T N st cc i (by omega) (by omega) (by omega) (by omega) (by omega) (by omega) (by omega) (by omega) (by omega); have qk := kt_0; refine Or.inl ⟨by omega, by omega, by omega, by omega⟩), v343, v344, (fun h => absurd h (by have qk := kt_0; omega))⟩⟩
            · have f430 : x95.toInt = -1 := by
                have q : _ := c115
                simp only [ti_nle, ti_nlt, ti_le, ti_lt, ti_eq, ti_ne, Classical.not_not, kt_m1] at q
                omega
              have b431 : IV x95 (-1) (-1) := ⟨by have q1 := b96; have q2 := kc_m1; omega, by have q1 := b96; have q2 := kc_m1; omega⟩
              refine m_iconst (v := 0) C dX6_readPerson_67 (by decide) ?_
              exact m_zret C hr rfl hlk (by decide) (by decide) dX6_readPerson_68 ⟨_, rfl, i93, g97, (iv_wk kc_0 (by decide)), ⟨(by have qd := per_ok T N st cc i (by omega) (by omega) (by omega) (by omega) (by omega) (by omega) (by omega) (by omega) (by omega); have qk := kt_0; refine Or.inl ⟨by omega, by omega, by omega, by omega⟩), v100, v101, (fun h => absurd h (by have qk := kt_0; omega))⟩⟩
        · have f432 : x68.toInt = -1 := by
            have q : _ := c88
            simp only [ti_nle, ti_nlt, ti_le, ti_lt, ti_eq, ti_ne, Classical.not_not, kt_m1] at q
            omega
          have b433 : IV x68 (-1) (-1) := ⟨by have q1 := b69; have q2 := kc_m1; omega, by have q1 := b69; have q2 := kc_m1; omega⟩
          refine m_iconst (v := 0) C dX6_readPerson_51 (by decide) ?_
          exact m_zret C hr rfl hlk (by decide) (by decide) dX6_readPerson_52 ⟨_, rfl, i66, g70, (iv_wk kc_0 (by decide)), ⟨(by have qd := per_ok T N st cc i (by omega) (by omega) (by omega) (by omega) (by omega) (by omega) (by omega) (by omega) (by omega); have qk := kt_0; refine Or.inl ⟨by omega, by omega, by omega, by omega⟩), v73, v74, (fun h => absurd h (by have qk := kt_0; omega))⟩⟩
    · have f434 : x27.toInt = 0 := by
        have q : _ := c43
        simp only [ti_nle, ti_nlt, ti_le, ti_lt, ti_eq, ti_ne, Classical.not_not, kt_0] at q
        omega
      have b435 : IV x27 0 0 := ⟨by have q1 := b28; have q2 := kc_0; omega, by have q1 := b28; have q2 := kc_0; omega⟩
      refine m_aload_n C dX6_readPerson_28 rfl rfl ?_
      refine m_iconst (v := 1) C dX6_readPerson_29 (by decide) ?_
      have q436 := kt_1
      refine m_callV (n := 1) (ci := 5) (st := []) C (c_X6_refuseE l G τ24 (1) i25 ) (by decide) (by decide) rfl rfl rfl q2_141 q2_138 q2_140 q0_8 q1_2 (by decide +kernel) rfl (by decide) (by decide) rfl (Nat.le_of_ble_eq_true rfl) dX6_readPerson_30 ?_
      rintro _ τ437 ⟨x440, rfl, i438, f439, b441, h443⟩
      have g442 : Fr MS_X6_readPersonS AS_X6_readPersonS σ τ437 := Fr.call (g29) f439 (by decide)
      have v444 : TpC τ437 T N := v31.fr f439 (by decide) (by decide) (by simp) (by decide)
      have v445 : SFd j2 σ τ437 := v32.fr f439 (by decide) (by decide)
      have v446 : PGr σ τ437 := v33.trans (PGr.fr f439 (by decide))
      have v447 : PrC τ437 j2 cc.toNat (PP T N) := v34.fr f439 (PGr.fr f439 (by decide)) (by decide)
      have q448 : (gV τ437 1 j2 0).toInt = (gV σ 1 j2 0).toInt := congrArg Int32.toInt (show (gV τ437 1 j2 0) = (gV σ 1 j2 0) from (show gV τ437 1 j2 0 = (gV σ 1 j2 0) from (f439.1 1 j2 (0) (by decide) (by decide)).trans (show gV τ24 1 j2 0 = (gV σ 1 j2 0) from (f26.1 1 j2 (0) (by decide) (by decide)).trans (show gV τ7 1 j2 0 = (gV σ 1 j2 0) from (f9.1 1 j2 (0) (by decide) (by decide)).trans rfl))))
      have q449 : (gV τ437 1 j2 2).toInt = (gV σ 1 j2 2).toInt := congrArg Int32.toInt (show (gV τ437 1 j2 2) = (gV σ 1 j2 2) from (show gV τ437 1 j2 2 = (gV σ 1 j2 2) from (f439.1 1 j2 (2) (by decide) (by decide)).trans (show gV τ24 1 j2 2 = (gV σ 1 j2 2) from (f26.1 1 j2 (2) (by decide) (by decide)).trans (show gV τ7 1 j2 2 = (gV σ 1 j2 2) from (f9.1 1 j2 (2) (by decide) (by decide)).trans rfl))))
      have q450 : (gV τ437 12 0 4).toInt = (gV τ7 12 0 4).toInt := congrArg Int32.toInt (show (gV τ437 12 0 4) = (gV τ7 12 0 4) from (show gV τ437 12 0 4 = (gV τ7 12 0 4) from (f439.1 12 0 (4) (by decide) (by decide)).trans (show gV τ24 12 0 4 = (gV τ7 12 0 4) from (f26.1 12 0 (4) (by decide) (by decide)).trans rfl)))
      have q451 : (gV τ437 12 0 5).toInt = (gV τ7 12 0 5).toInt := congrArg Int32.toInt (show (gV τ437 12 0 5) = (gV τ7 12 0 5) from (show gV τ437 12 0 5 = (gV τ7 12 0 5) from (f439.1 12 0 (5) (by decide) (by decide)).trans (show gV τ24 12 0 5 = (gV τ7 12 0 5) from (f26.1 12 0 (5) (by decide) (by decide)).trans rfl)))
      have q452 : (gV τ437 12 0 6).toInt = (gV τ7 12 0 6).toInt := congrArg Int32.toInt (show (gV τ437 12 0 6) = (gV τ7 12 0 6) from (show gV τ437 12 0 6 = (gV τ7 12 0 6) from (f439.1 12 0 (6) (by decide) (by decide)).trans (show gV τ24 12 0 6 = (gV τ7 12 0 6) from (f26.1 12 0 (6) (by decide) (by decide)).trans rfl)))
      have q453 : (gV τ437 12 0 7).toInt = (gV τ7 12 0 7).toInt := congrArg Int32.toInt (show (gV τ437 12 0 7) = (gV τ7 12 0 7) from (show gV τ437 12 0 7 = (gV τ7 12 0 7) from (f439.1 12 0 (7) (by decide) (by decide)).trans (show gV τ24 12 0 7 = (gV τ7 12 0 7) from (f26.1 12 0 (7) (by decide) (by decide)).trans rfl)))
      show MW p l e _ s m args below meth c _ 7 G 0 0 33 [some (.ref (G.1 12 0)), some (.ref (G.1 1 j2)), some (.int x27), none, none, none, none] [.int x440] τ437
      exact m_zret C hr (nar_z (iv_wk b441 (by decide))) hlk (by decide) (by decide) dX6_readPerson_33 ⟨_, rfl, i438, g442, (iv_wk b441 (by decide)), ⟨(by have qd := per_1 T N st cc i (by omega) (by omega); refine Or.inl ⟨by omega, by omega, by omega, by omega⟩), v445, v446, (fun h => absurd h (by omega))⟩⟩
  · have f454 : 7 ≤ (gV σ 1 j2 2).toInt := by
      have q : _ := c4
      simp only [ti_nle, ti_nlt, ti_le, ti_lt, ti_eq, ti_ne, Classical.not_not, kt_7] at q
      omega
    have b455 : IV (gV σ 1 j2 2) 7 7 := ⟨by have q1 := kc_7; have q2 := u1; omega, by have q1 := kc_7; have q2 := u1; omega⟩
    refine m_aload_n C dX6_readPerson_9 rfl rfl ?_
    refine m_iconst (v := 3) C dX6_readPerson_10 (by decide) ?_
    have q456 := kt_3
    refine m_callV (n := 1) (ci := 5) (st := []) C (c_X6_refuseE l G σ (3) hI ) (by decide) (by decide) rfl rfl rfl q2_141 q2_138 q2_140 q0_8 q1_2 (by decide +kernel) rfl (by decide) (by decide) rfl (Nat.le_of_ble_eq_true rfl) dX6_readPerson_11 ?_
    rintro _ τ457 ⟨x460, rfl, i458, f459, b461, h463⟩
    have g462 : Fr MS_X6_readPersonS AS_X6_readPersonS σ τ457 := Fr.call (Fr.rf) f459 (by decide)
    have v464 : TpC τ457 T N := hT.fr f459 (by decide) (by decide) (by simp) (by decide)
    have v465 : SFd j2 σ τ457 := SFd.rf.fr f459 (by decide) (by decide)
    have v466 : PGr σ τ457 := PGr.rf.trans (PGr.fr f459 (by decide))
    have v467 : PrC τ457 j2 cc.toNat (PP T N) := hpp.2.fr f459 (PGr.fr f459 (by decide)) (by decide)
    have q468 : (gV τ457 1 j2 0).toInt = (gV σ 1 j2 0).toInt := congrArg Int32.toInt (show (gV τ457 1 j2 0) = (gV σ 1 j2 0) from (show gV τ457 1 j2 0 = (gV σ 1 j2 0) from (f459.1 1 j2 (0) (by decide) (by decide)).trans rfl))
    have q469 : (gV τ457 1 j2 2).toInt = (gV σ 1 j2 2).toInt := congrArg Int32.toInt (show (gV τ457 1 j2 2) = (gV σ 1 j2 2) from (show gV τ457 1 j2 2 = (gV σ 1 j2 2) from (f459.1 1 j2 (2) (by decide) (by decide)).trans rfl))
    have q470 : (gV τ457 12 0 4).toInt = (gV σ 12 0 4).toInt := congrArg Int32.toInt (show (gV τ457 12 0 4) = (gV σ 12 0 4) from (show gV τ457 12 0 4 = (gV σ 12 0 4) from (f459.1 12 0 (4) (by decide) (by decide)).trans rfl))
    have q471 : (gV τ457 12 0 5).toInt = (gV σ 12 0 5).toInt := congrArg Int32.toInt (show (gV τ457 12 0 5) = (gV σ 12 0 5) from (show gV τ457 12 0 5 = (gV σ 12 0 5) from (f459.1 12 0 (5) (by decide) (by decide)).trans rfl))
    have q472 : (gV τ457 12 0 6).toInt = (gV σ 12 0 6).toInt := congrArg Int32.toInt (show (gV τ457 12 0 6) = (gV σ 12 0 6) from (show gV τ457 12 0 6 = (gV σ 12 0 6) from (f459.1 12 0 (6) (by decide) (by decide)).trans rfl))
    have q473 : (gV τ457 12 0 7).toInt = (gV σ 12 0 7).toInt := congrArg Int32.toInt (show (gV τ457 12 0 7) = (gV σ 12 0 7) from (show gV τ457 12 0 7 = (gV σ 12 0 7) from (f459.1 12 0 (7) (by decide) (by decide)).trans rfl))
    show MW p l e _ s m args below meth c _ 7 G 0 0 14 [some (.ref (G.1 12 0)), some (.ref (G.1 1 j2)), none, none, none, none, none] [.int x460] τ457
    exact m_zret C hr (nar_z (iv_wk b461 (by decide))) hlk (by decide) (by decide) dX6_readPerson_14 ⟨_, rfl, i458, g462, (iv_wk b461 (by decide)), ⟨(by have qd := per_0 T N st cc i (by omega); refine Or.inl ⟨by omega, by omega, by omega, by omega⟩), v465, v466, (fun h => absurd h (by omega))⟩⟩
