abbrev MS_X12_takePersonE : List (Nat × Nat) := [(22, 11), (22, 12), (22, 13), (22, 15), (22, 16)]
abbrev AS_X12_takePersonE : List Nat := [23]
set_option maxHeartbeats 4000000 in
set_option maxRecDepth 100000 in
theorem c_X12_takePersonE (l : Launch) (G : Gt) (σ : Sg) (T : Nat → Int) (N : Nat) (i : Nat) (st : Int) (cc : Int) (hI : Inv σ) (hT : TpM σ T N) (hcur : ((gV σ 22 0 12).toInt = (tS T i : Int) ∧ (tK T N i ≠ 4 → (gV σ 22 0 11).toInt = (tE T N i : Int)) ∧ (gV σ 22 0 13).toInt = (tK T N i + 4) % 5 ∧ 0 ≤ tK T N i ∧ tK T N i ≤ 4 ∧ (tK T N i = 2 → (gV σ 22 0 15).toInt = tV T i) ∧ (gV σ 22 0 12).toInt ≤ 400)) (hat : (gV σ 22 0 11).toInt ≤ (gV σ 22 0 6).toInt) (hf0 : (gV σ 22 0 16).toInt = 0) (hPb : Pb σ) (hst : ((gV σ 23 0 150).toInt = st ∧ 4 ≤ st ∧ st ≤ 32 ∧ (gV σ 23 0 152).toInt = cc)) : Mc l G yX12_takePerson cX12_takePerson 4 none 3 69 0 0 [.ref (G.1 22 0)] σ (PV fun τ => Inv τ ∧ Fr MS_X12_takePersonE AS_X12_takePersonE σ τ ∧ ((perF T N st cc i ≠ 0 ∧ ((gV τ 22 0 16).toInt = perF T N st cc i ∧ 1 ≤ (gV τ 22 0 16).toInt ∧ (gV τ 22 0 16).toInt ≤ 3) ∧ ((gV τ 22 0 12).toInt = perP T N st cc i ∧ 0 ≤ (gV τ 22 0 12).toInt ∧ (gV τ 22 0 12).toInt ≤ 400) ∧ ((gV τ 23 0 152).toInt = cc ∨ (gV τ 23 0 152).toInt = cc + 1) ∧ ((gV τ 23 0 150).toInt = (gV σ 23 0 150).toInt ∧ (gV τ 23 0 188).toInt = (gV σ 23 0 188).toInt) ∧ (gV τ 22 0 11).toInt ≤ (gV τ 22 0 6).toInt) ∨ (perF T N st cc i = 0 ∧ (gV τ 22 0 16).toInt = 0 ∧ (gV τ 23 0 152).toInt = cc + 1 ∧ ((gV τ 22 0 12).toInt = (tS T (tE T N (tE T N (tE T N (tE T N (tE T N (tE T N i)))))) : Int) ∧ (tK T N (tE T N (tE T N (tE T N (tE T N (tE T N (tE T N i)))))) ≠ 4 → (gV τ 22 0 11).toInt = (tE T N (tE T N (tE T N (tE T N (tE T N (tE T N (tE T N i)))))) : Int)) ∧ (gV τ 22 0 13).toInt = (tK T N (tE T N (tE T N (tE T N (tE T N (tE T N (tE T N i)))))) + 4) % 5 ∧ 0 ≤ tK T N (tE T N (tE T N (tE T N (tE T N (tE T N (tE T N i)))))) ∧ tK T N (tE T N (tE T N (tE T N (tE T N (tE T N (tE T N i)))))) ≤ 4 ∧ (tK T N (tE T N (tE T N (tE T N (tE T N (tE T N (tE T N i)))))) = 2 → (gV τ 22 0 15).toInt = tV T (tE T N (tE T N (tE T N (tE T N (tE T N (tE T N i))))))) ∧ (gV τ 22 0 12).toInt ≤ 400) ∧ ((gV τ 23 0 150).toInt = (gV σ 23 0 150).toInt ∧ (gV τ 23 0 188).toInt = (gV σ 23 0 188).toInt) ∧ (gV τ 22 0 11).toInt ≤ (gV τ 22 0 6).toInt ∧ Pb τ ∧ LW T N (tE T N (tE T N (tE T N (tE T N (tE T N (tE T N i)))))) τ.2.2.1))) := by
  refine Mc.of (L0 := [some (.ref (G.1 22 0)), none, none, none]) (by decide) (Nat.le_of_ble_eq_true rfl) rfl ?_
  intro p e s m args below meth c C hr hlk
  have C : Cx p s m args c cX12_takePerson 4 "LeanTowerModel" := C
  have k0 : (0 : Int32).toInt = 0 := by decide
  have k1 : (1 : Int32).toInt = 1 := by decide
  have J43 : ∀ (τ : Sg) (y1 : Int32) (z0 : Int32), Inv τ → Fr MS_X12_takePersonE AS_X12_takePersonE σ τ → IV y1 0 6 → IV z0 (-1) 5 → (CP (gV σ 23 0 152).toInt τ) → (TpM τ T N) → ((((gV τ 22 0 12).toInt = (tS T (tE T N i) : Int) ∧ (tK T N (tE T N i) ≠ 4 → (gV τ 22 0 11).toInt = (tE T N (tE T N i) : Int)) ∧ (gV τ 22 0 13).toInt = (tK T N (tE T N i) + 4) % 5 ∧ 0 ≤ tK T N (tE T N i) ∧ tK T N (tE T N i) ≤ 4 ∧ (tK T N (tE T N i) = 2 → (gV τ 22 0 15).toInt = tV T (tE T N i)) ∧ (gV τ 22 0 12).toInt ≤ 400) ∧ (gV τ 22 0 11).toInt ≤ (gV τ 22 0 6).toInt ∧ (gV τ 22 0 16).toInt = 0 ∧ (gV τ 23 0 150).toInt = st ∧ (gV τ 23 0 152).toInt = cc ∧ (gV τ 23 0 188).toInt = (gV σ 23 0 188).toInt ∧ cc ≤ 6 ∧ y1.toInt = cc)) → (((z0.toInt = -1 ∧ tQ T N (tE T N i) = 0) ∨ (1 ≤ z0.toInt ∧ z0.toInt ≤ 5 ∧ z0.toInt = tQ T N (tE T N i)))) → MW p l e { frames := 3, cells := 0, slots := 0, locals := 69 } s m args below meth c (MQ below (QP G (PV fun τ => Inv τ ∧ Fr MS_X12_takePersonE AS_X12_takePersonE σ τ ∧ ((perF T N st cc i ≠ 0 ∧ ((gV τ 22 0 16).toInt = perF T N st cc i ∧ 1 ≤ (gV τ 22 0 16).toInt ∧ (gV τ 22 0 16).toInt ≤ 3) ∧ ((gV τ 22 0 12).toInt = perP T N st cc i ∧ 0 ≤ (gV τ 22 0 12).toInt ∧ (gV τ 22 0 12).toInt ≤ 400) ∧ ((gV τ 23 0 152).toInt = cc ∨ (gV τ 23 0 152).toInt = cc + 1) ∧ ((gV τ 23 0 150).toInt = (gV σ 23 0 150).toInt ∧ (gV τ 23 0 188).toInt = (gV σ 23 0 188).toInt) ∧ (gV τ 22 0 11).toInt ≤ (gV τ 22 0 6).toInt) ∨ (perF T N st cc i = 0 ∧ (gV τ 22 0 16).toInt = 0 ∧ (gV τ 23 0 152).toInt = cc + 1 ∧ ((gV τ 22 0 12).toInt = (tS T (tE T N (tE T N (tE T N (tE T N (tE T N (tE T N i)))))) : Int) ∧ (tK T N (tE T N (tE T N (tE T N (tE T N (tE T N (tE T N i)))))) ≠ 4 → (gV τ 22 0 11).toInt = (tE T N (tE T N (tE T N (tE T N (tE T N (tE T N (tE T N i)))))) : Int)) ∧ (gV τ 22 0 13).toInt = (tK T N (tE T N (tE T N (tE T N (tE T N (tE T N (tE T N i)))))) + 4) % 5 ∧ 0 ≤ tK T N (tE T N (tE T N (tE T N (tE T N (tE T N (tE T N i)))))) ∧ tK T N (tE T N (tE T N (tE T N (tE T N (tE T N (tE T N i)))))) ≤ 4 ∧ (tK T N (tE T N (tE T N (tE T N (tE T N (tE T N (tE T N i)))))) = 2 → (gV τ 22 0 15).toInt = tV T (tE T N (tE T N (tE T N (tE T N (tE T N (tE T N i))))))) ∧ (gV τ 22 0 12).toInt ≤ 400) ∧ ((gV τ 23 0 150).toInt = (gV σ 23 0 150).toInt ∧ (gV τ 23 0 188).toInt = (gV σ 23 0 188).toInt) ∧ (gV τ 22 0 11).toInt ≤ (gV τ 22 0 6).toInt ∧ Pb τ ∧ LW T N (tE T N (tE T N (tE T N (tE T N (tE T N (tE T N i)))))) τ.2.2.1)))) args s 0 0 (aG G)) 4 G 0 0 43 [some (.ref (G.1 22 0)), some (.int y1), none, none] [.int z0] τ := by
    intro τ y1 z0 iτ fτ b_y1 b_z0 v_CP v_T nA nB
    have u1 : IV (gV τ 22 0 11) 0 400 := iτ.1 22 0 11
    have u2 : IV (gV τ 22 0 6) 0 400 := iτ.1 22 0 6
    have u3 : IV (gV τ 23 0 152) 0 7 := iτ.1 23 0 152
    have u4 : IV (gV τ 23 0 188) 0 4 := iτ.1 23 0 188
    have q5 : (gV τ 22 0 6).toInt = (N : Int) := v_T.1
    have q6 := v_T.2.1
    obtain ⟨nc_, na_, nf_, ns_, nw_, nx_, ny_, nz_⟩ := nA
    rcases nB with ⟨nq_, nr_⟩ | ⟨nq_, nr_, nt_⟩
    · have b7 : IV z0 (-1) (-1) := ⟨by omega, by omega⟩
      have b8 : IV (gV τ 22 0 16) 0 0 := ⟨by omega, by omega⟩
      refine m_istore_n (L1 := [some (.ref (G.1 22 0)), some (.int y1), some (.int z0), none]) C dX12_takePerson_43 rfl (by decide) rfl rfl ?_
      refine m_iload_n C dX12_takePerson_44 rfl rfl ?_
      refine m_if_ge (tgt := 54) C dX12_takePerson_45 (by decide) (fun c9 => ?_) (fun c9 => ?_)
      · exfalso
        have q : _ := c9
        simp only [ti_nle, ti_nlt, ti_le, ti_lt, ti_eq, ti_ne, Classical.not_not, kt_0] at q
        have q1 := b7; have q2 := kc_0; omega
      · have f11 : z0.toInt < 0 := by
          have q : _ := c9
          simp only [ti_nle, ti_nlt, ti_le, ti_lt, ti_eq, ti_ne, Classical.not_not, kt_0] at q
          omega
        refine m_aload_n C dX12_takePerson_48 rfl rfl ?_
        refine m_iconst (v := 1) C dX12_takePerson_49 (by decide) ?_
        refine p_22_16 C q4_132 dX12_takePerson_50 ?_
        refine m_tops (fun τ12 eτ12 => ?_)
        have i13 : Inv τ12 := eτ12 ▸ Inv.putF iτ (by decide) rfl
        have f14 : Fr MS_X12_takePersonE AS_X12_takePersonE σ τ12 := eτ12 ▸ Fr.put (fτ) (Or.inl (by decide))
        have v15 : CP (gV σ 23 0 152).toInt τ12 := v_CP.put eτ12 (Or.inl (by decide))
        have v16 : TpM τ12 T N := v_T.put eτ12 (Or.inr (by decide)) (by decide)
        have v17 : τ12.2.2.1 = τ.2.2.1 := by rw [eτ12]; rfl
        have q18 : (gV τ12 22 0 11).toInt = (gV τ 22 0 11).toInt := congrArg Int32.toInt (show (gV τ12 22 0 11) = (gV τ 22 0 11) from (show gV τ12 22 0 11 = (gV τ 22 0 11) from gV_put eτ12 rfl))
        have q19 : (gV τ12 22 0 12).toInt = (gV τ 22 0 12).toInt := congrArg Int32.toInt (show (gV τ12 22 0 12) = (gV τ 22 0 12) from (show gV τ12 22 0 12 = (gV τ 22 0 12) from gV_put eτ12 rfl))
        have q20 : (gV τ12 22 0 13).toInt = (gV τ 22 0 13).toInt := congrArg Int32.toInt (show (gV τ12 22 0 13) = (gV τ 22 0 13) from (show gV τ12 22 0 13 = (gV τ 22 0 13) from gV_put eτ12 rfl))
        have q21 : (gV τ12 22 0 15).toInt = (gV τ 22 0 15).toInt := congrArg Int32.toInt (show (gV τ12 22 0 15) = (gV τ 22 0 15) from (show gV τ12 22 0 15 = (gV τ 22 0 15) from gV_put eτ12 rfl))
        have q22 : (gV τ12 22 0 6).toInt = (gV τ 22 0 6).toInt := congrArg Int32.toInt (show (gV τ12 22 0 6) = (gV τ 22 0 6) from (show gV τ12 22 0 6 = (gV τ 22 0 6) from gV_put eτ12 rfl))
        have q23 : (gV τ12 23 0 150).toInt = (gV τ 23 0 150).toInt := congrArg Int32.toInt (show (gV τ12 23 0 150) = (gV τ 23 0 150) from (show gV τ12 23 0 150 = (gV τ 23 0 150) from gV_put eτ12 rfl))
        have q24 : (gV τ12 23 0 152).toInt = (gV τ 23 0 152).toInt := congrArg Int32.toInt (show (gV τ12 23 0 152) = (gV τ 23 0 152) from (show gV τ12 23 0 152 = (gV τ 23 0 152) from gV_put eτ12 rfl))
        have q25 : (gV τ12 23 0 188).toInt = (gV τ 23 0 188).toInt := congrArg Int32.toInt (show (gV τ12 23 0 188) = (gV τ 23 0 188) from (show gV τ12 23 0 188 = (gV τ 23 0 188) from gV_put eτ12 rfl))
        have q26 : (gV τ12 22 0 16).toInt = 1 := (congrArg Int32.toInt (show (gV τ12 22 0 16) = 1 from (show gV τ12 22 0 16 = 1 from gV_put eτ12 (gV_self _ _ _ _ _)))).trans kt_1
        exact m_vret C hr hlk (by decide) (by decide) dX12_takePerson_53 ⟨rfl, i13, f14, (by have qd := per_1 T N st cc i (by omega) (by omega); exact Or.inl ⟨by omega, by omega, by omega, by omega, by omega, by omega⟩)⟩
    · have b27 : IV z0 1 5 := ⟨by omega, by omega⟩
      have b28 : IV (gV τ 22 0 16) 0 0 := ⟨by omega, by omega⟩
      refine m_istore_n (L1 := [some (.ref (G.1 22 0)), some (.int y1), some (.int z0), none]) C dX12_takePerson_43 rfl (by decide) rfl rfl ?_
      refine m_iload_n C dX12_takePerson_44 rfl rfl ?_
      refine m_if_ge (tgt := 54) C dX12_takePerson_45 (by decide) (fun c29 => ?_) (fun c29 => ?_)
      · have f30 : 0 ≤ z0.toInt := by
          have q : _ := c29
          simp only [ti_nle, ti_nlt, ti_le, ti_lt, ti_eq, ti_ne, Classical.not_not, kt_0] at q
          omega
        refine m_aload_n C dX12_takePerson_54 rfl rfl ?_
        refine m_callV (n := 0) (ci := 11) (st := []) C (c_X12_nextE l G τ T N (tE T N (tE T N i))  iτ v_T (by omega)) (by decide) (by decide) rfl rfl rfl q4_231 q4_228 q4_230 q0_28 q1_7 (by decide +kernel) rfl (by decide) (by decide) rfl (Nat.le_of_ble_eq_true rfl) dX12_takePerson_55 ?_
        rintro _ τ31 ⟨rfl, i32, f33, h37⟩
        have g36 : Fr MS_X12_takePersonE AS_X12_takePersonE σ τ31 := Fr.call (fτ) f33 (by decide)
        clear nc_
        have v38 : CP (gV σ 23 0 152).toInt τ31 := v_CP.call (fun k => f33.1 23 0 k (by simp) (by decide))
        have v39 : TpM τ31 T N := v_T.fr f33 (by decide) (by decide) (by simp) (by decide)
        obtain ⟨h40, h42, v41⟩ := h37
        have u43 : IV (gV τ31 22 0 11) 0 400 := i32.1 22 0 11
        have q44 : (gV τ31 22 0 16).toInt = (gV τ 22 0 16).toInt := congrArg Int32.toInt (show (gV τ31 22 0 16) = (gV τ 22 0 16) from (show gV τ31 22 0 16 = (gV τ 22 0 16) from (f33.1 22 0 (16) (by decide) (by decide)).trans rfl))
        have q45 : (gV τ31 22 0 6).toInt = (gV τ 22 0 6).toInt := congrArg Int32.toInt (show (gV τ31 22 0 6) = (gV τ 22 0 6) from (show gV τ31 22 0 6 = (gV τ 22 0 6) from (f33.1 22 0 (6) (by decide) (by decide)).trans rfl))
        have q46 : (gV τ31 23 0 150).toInt = (gV τ 23 0 150).toInt := congrArg Int32.toInt (show (gV τ31 23 0 150) = (gV τ 23 0 150) from (show gV τ31 23 0 150 = (gV τ 23 0 150) from (f33.1 23 0 (150) (by decide) (by decide)).trans rfl))
        have q47 : (gV τ31 23 0 152).toInt = (gV τ 23 0 152).toInt := congrArg Int32.toInt (show (gV τ31 23 0 152) = (gV τ 23 0 152) from (show gV τ31 23 0 152 = (gV τ 23 0 152) from (f33.1 23 0 (152) (by decide) (by decide)).trans rfl))
        have q48 : (gV τ31 23 0 188).toInt = (gV τ 23 0 188).toInt := congrArg Int32.toInt (show (gV τ31 23 0 188) = (gV τ 23 0 188) from (show gV τ31 23 0 188 = (gV τ 23 0 188) from (f33.1 23 0 (188) (by decide) (by decide)).trans rfl))
        show MW p l e _ s m args below meth c _ 4 G 0 0 58 [some (.ref (G.1 22 0)), some (.int y1), some (.int z0), none] [] τ31
        refine m_aload_n C dX12_takePerson_58 rfl rfl ?_
        refine g_22_0 C q4_116 dX12_takePerson_59 ?_
        refine m_sipush (v := 153) C dX12_takePerson_62 (by decide) ?_
        refine m_iload_n C dX12_takePerson_65 rfl rfl ?_
        refine m_iadd C dX12_takePerson_66 ?_
        refine m_topi (fun x49 ex49 => ?_)
        have tx49 : x49.toInt = 153 + y1.toInt := by rw [ex49, ti_addv kc_153 b_y1 (by decide), kt_153]
        have b50 : IV x49 153 159 := by rw [ex49]; exact iv_add kc_153 b_y1 (by decide)
        refine m_iload_n C dX12_takePerson_67 rfl rfl ?_
        refine as_23 C b50 (by decide) rfl dX12_takePerson_68 ?_
        refine m_tops (fun τ51 eτ51 => ?_)
        have i52 : Inv τ51 := eτ51 ▸ Inv.putRo i32 (by omega)
        have f53 : Fr MS_X12_takePersonE AS_X12_takePersonE σ τ51 := eτ51 ▸ Fr.put (g36) (Or.inr (by decide))
        have v54 : CP (gV σ 23 0 152).toInt τ51 := v38.put eτ51 (Or.inr (fun q hq => by omega))
        have v55 : TpM τ51 T N := v39.put eτ51 (Or.inl (by decide)) (by decide)
        have v56 : LW T N (tE T N (tE T N i)) τ51.2.2.1 := by rw [eτ51]; exact v41
        refine m_aload_n C dX12_takePerson_69 rfl rfl ?_
        refine g_22_0 C q4_116 dX12_takePerson_70 ?_
        refine m_sipush (v := 160) C dX12_takePerson_73 (by decide) ?_
        refine m_iload_n C dX12_takePerson_76 rfl rfl ?_
        refine m_iadd C dX12_takePerson_77 ?_
        refine m_topi (fun x57 ex57 => ?_)
        have tx57 : x57.toInt = 160 + y1.toInt := by rw [ex57, ti_addv kc_160 b_y1 (by decide), kt_160]
        have b58 : IV x57 160 166 := by rw [ex57]; exact iv_add kc_160 b_y1 (by decide)
        refine m_aload_n C dX12_takePerson_78 rfl rfl ?_
        refine m_iconst (v := 1) C dX12_takePerson_79 (by decide) ?_
        refine m_bipush (v := 20) C dX12_takePerson_80 (by decide) ?_
        refine m_iconst (v := 1) C dX12_takePerson_82 (by decide) ?_
        have q59 : (gV τ51 22 0 16).toInt = (gV τ 22 0 16).toInt := congrArg Int32.toInt (show (gV τ51 22 0 16) = (gV τ 22 0 16) from (show gV τ51 22 0 16 = (gV τ 22 0 16) from gV_put eτ51 (show gV τ31 22 0 16 = (gV τ 22 0 16) from (f33.1 22 0 (16) (by decide) (by decide)).trans rfl)))
        have q60 : (gV τ51 22 0 6).toInt = (gV τ 22 0 6).toInt := congrArg Int32.toInt (show (gV τ51 22 0 6) = (gV τ 22 0 6) from (show gV τ51 22 0 6 = (gV τ 22 0 6) from gV_put eτ51 (show gV τ31 22 0 6 = (gV τ 22 0 6) from (f33.1 22 0 (6) (by decide) (by decide)).trans rfl)))
        have q61 : (gV τ51 23 0 150).toInt = (gV τ 23 0 150).toInt := congrArg Int32.toInt (show (gV τ51 23 0 150) = (gV τ 23 0 150) from (show gV τ51 23 0 150 = (gV τ 23 0 150) from (gV_putn eτ51 (Or.inr (Or.inr (by omega)))).trans (show gV τ31 23 0 150 = (gV τ 23 0 150) from (f33.1 23 0 (150) (by decide) (by decide)).trans rfl)))
        have q62 : (gV τ51 23 0 152).toInt = (gV τ 23 0 152).toInt := congrArg Int32.toInt (show (gV τ51 23 0 152) = (gV τ 23 0 152) from (show gV τ51 23 0 152 = (gV τ 23 0 152) from (gV_putn eτ51 (Or.inr (Or.inr (by omega)))).trans (show gV τ31 23 0 152 = (gV τ 23 0 152) from (f33.1 23 0 (152) (by decide) (by decide)).trans rfl)))
        have q63 : (gV τ51 23 0 188).toInt = (gV τ 23 0 188).toInt := congrArg Int32.toInt (show (gV τ51 23 0 188) = (gV τ 23 0 188) from (show gV τ51 23 0 188 = (gV τ 23 0 188) from (gV_putn eτ51 (Or.inr (Or.inr (by omega)))).trans (show gV τ31 23 0 188 = (gV τ 23 0 188) from (f33.1 23 0 (188) (by decide) (by decide)).trans rfl)))
        have q64 : (gV τ51 22 0 11).toInt = (gV τ31 22 0 11).toInt := congrArg Int32.toInt (show (gV τ51 22 0 11) = (gV τ31 22 0 11) from (show gV τ51 22 0 11 = (gV τ31 22 0 11) from gV_put eτ51 rfl))
        have q65 : (gV τ51 22 0 12).toInt = (gV τ31 22 0 12).toInt := congrArg Int32.toInt (show (gV τ51 22 0 12) = (gV τ31 22 0 12) from (show gV τ51 22 0 12 = (gV τ31 22 0 12) from gV_put eτ51 rfl))
        have q66 : (gV τ51 22 0 13).toInt = (gV τ31 22 0 13).toInt := congrArg Int32.toInt (show (gV τ51 22 0 13) = (gV τ31 22 0 13) from (show gV τ51 22 0 13 = (gV τ31 22 0 13) from gV_put eτ51 rfl))
        have q67 : (gV τ51 22 0 15).toInt = (gV τ31 22 0 15).toInt := congrArg Int32.toInt (show (gV τ51 22 0 15) = (gV τ31 22 0 15) from (show gV τ51 22 0 15 = (gV τ31 22 0 15) from gV_put eτ51 rfl))
        have q68 := kt_1
        have q69 := kt_20
        have q70 := kt_1
        refine m_callV (n := 3) (ci := 11) (st := [.int x57, .ref (G.1 23 0)]) C (c_X12_takeNumberE l G τ51 T N (tE T N (tE T N i)) (1) (20) (1) i52 v55 (by omega) (by omega)) (by decide) (by decide) rfl rfl rfl q5_7 q5_4 q5_6 q0_30 q1_7 (by decide +kernel) rfl (by decide) (by decide) rfl (Nat.le_of_ble_eq_true rfl) dX12_takePerson_83 ?_
        rintro _ τ71 ⟨x74, rfl, i72, f73, b75, h77⟩
        have g76 : Fr MS_X12_takePersonE AS_X12_takePersonE σ τ71 := Fr.call (f53) f73 (by decide)
        clear h40
        have v78 : CP (gV σ 23 0 152).toInt τ71 := v54.call (fun k => f73.1 23 0 k (by simp) (by decide))
        have v79 : TpM τ71 T N := v55.fr f73 (by decide) (by decide) (by simp) (by decide)
        have u80 : IV (gV τ71 22 0 11) 0 400 := i72.1 22 0 11
        have q81 : (gV τ71 22 0 6).toInt = (gV τ 22 0 6).toInt := congrArg Int32.toInt (show (gV τ71 22 0 6) = (gV τ 22 0 6) from (show gV τ71 22 0 6 = (gV τ 22 0 6) from (f73.1 22 0 (6) (by decide) (by decide)).trans (show gV τ51 22 0 6 = (gV τ 22 0 6) from gV_put eτ51 (show gV τ31 22 0 6 = (gV τ 22 0 6) from (f33.1 22 0 (6) (by decide) (by decide)).trans rfl))))
        have q82 : (gV τ71 23 0 150).toInt = (gV τ 23 0 150).toInt := congrArg Int32.toInt (show (gV τ71 23 0 150) = (gV τ 23 0 150) from (show gV τ71 23 0 150 = (gV τ 23 0 150) from (f73.1 23 0 (150) (by decide) (by decide)).trans (show gV τ51 23 0 150 = (gV τ 23 0 150) from (gV_putn eτ51 (Or.inr (Or.inr (by omega)))).trans (show gV τ31 23 0 150 = (gV τ 23 0 150) from (f33.1 23 0 (150) (by decide) (by decide)).trans rfl))))
        have q83 : (gV τ71 23 0 152).toInt = (gV τ 23 0 152).toInt := congrArg Int32.toInt (show (gV τ71 23 0 152) = (gV τ 23 0 152) from (show gV τ71 23 0 152 = (gV τ 23 0 152) from (f73.1 23 0 (152) (by decide) (by decide)).trans (show gV τ51 23 0 152 = (gV τ 23 0 152) from (gV_putn eτ51 (Or.inr (Or.inr (by omega)))).trans (show gV τ31 23 0 152 = (gV τ 23 0 152) from (f33.1 23 0 (152) (by decide) (by decide)).trans rfl))))
        have q84 : (gV τ71 23 0 188).toInt = (gV τ 23 0 188).toInt := congrArg Int32.toInt (show (gV τ71 23 0 188) = (gV τ 23 0 188) from (show gV τ71 23 0 188 = (gV τ 23 0 188) from (f73.1 23 0 (188) (by decide) (by decide)).trans (show gV τ51 23 0 188 = (gV τ 23 0 188) from (gV_putn eτ51 (Or.inr (Or.inr (by omega)))).trans (show gV τ31 23 0 188 = (gV τ 23 0 188) from (f33.1 23 0 (188) (by decide) (by decide)).trans rfl))))
        rcases h77 with ⟨h77_0, h77_1, h77_2, h77_3, h77_4⟩ | ⟨h77_0, h77_1, h77_2, h77_3, h77_4, h77_5, h77_6⟩ | ⟨h77_0, h77_1, h77_2, h77_3, h77_4, h77_5, h77_6⟩
        · skip
          have b85 : IV x74 (-1) (-1) := ⟨by omega, by omega⟩
          have b86 : IV (gV τ71 22 0 16) 1 1 := ⟨by omega, by omega⟩
          show MW p l e _ s m args below meth c _ 4 G 0 0 86 [some (.ref (G.1 22 0)), some (.int y1), some (.int z0), none] [.int x74, .int x57, .ref (G.1 23 0)] τ71
          refine as_23 C b58 (by decide) rfl dX12_takePerson_86 ?_
          refine m_tops (fun τ87 eτ87 => ?_)
          have i88 : Inv τ87 := eτ87 ▸ Inv.putRo i72 (by omega)
          have f89 : Fr MS_X12_takePersonE AS_X12_takePersonE σ τ87 := eτ87 ▸ Fr.put (g76) (Or.inr (by decide))
          have v90 : CP (gV σ 23 0 152).toInt τ87 := v78.put eτ87 (Or.inr (fun q hq => by omega))
          have v91 : TpM τ87 T N := v79.put eτ87 (Or.inl (by decide)) (by decide)
          refine m_aload_n C dX12_takePerson_87 rfl rfl ?_
          refine g_22_0 C q4_116 dX12_takePerson_88 ?_
          refine m_sipush (v := 167) C dX12_takePerson_91 (by decide) ?_
          refine m_iload_n C dX12_takePerson_94 rfl rfl ?_
          refine m_iadd C dX12_takePerson_95 ?_
          refine m_topi (fun x92 ex92 => ?_)
          have tx92 : x92.toInt = 167 + y1.toInt := by rw [ex92, ti_addv kc_167 b_y1 (by decide), kt_167]
          have b93 : IV x92 167 173 := by rw [ex92]; exact iv_add kc_167 b_y1 (by decide)
          refine m_aload_n C dX12_takePerson_96 rfl rfl ?_
          refine g_22_16 C q4_132 dX12_takePerson_97 ?_
          refine m_eqs (w := (gV τ71 22 0 16)) (show gV τ87 22 0 16 = (gV τ71 22 0 16) from gV_put eτ87 rfl) ?_
          refine m_if_ne (tgt := 113) C dX12_takePerson_100 (by decide) (fun c94 => ?_) (fun c94 => ?_)
          · have f95 : (gV τ71 22 0 16).toInt ≠ 0 := by
              have q : _ := c94
              simp only [ti_nle, ti_nlt, ti_le, ti_lt, ti_eq, ti_ne, Classical.not_not, kt_0] at q
              omega
            refine m_iconst (v := 0) C dX12_takePerson_113 (by decide) ?_
            refine as_23 C b93 (by decide) rfl dX12_takePerson_114 ?_
            refine m_tops (fun τ96 eτ96 => ?_)
            have i97 : Inv τ96 := eτ96 ▸ Inv.putR0 i88 (by omega) kt_0
            have f98 : Fr MS_X12_takePersonE AS_X12_takePersonE σ τ96 := eτ96 ▸ Fr.put (f89) (Or.inr (by decide))
            have v99 : CP (gV σ 23 0 152).toInt τ96 := v90.put eτ96 (Or.inr (fun q hq => by omega))
            have v100 : TpM τ96 T N := v91.put eτ96 (Or.inl (by decide)) (by decide)
            have q101 : (gV τ96 22 0 6).toInt = (gV τ 22 0 6).toInt := congrArg Int32.toInt (show (gV τ96 22 0 6) = (gV τ 22 0 6) from (show gV τ96 22 0 6 = (gV τ 22 0 6) from gV_put eτ96 (show gV τ87 22 0 6 = (gV τ 22 0 6) from gV_put eτ87 (show gV τ71 22 0 6 = (gV τ 22 0 6) from (f73.1 22 0 (6) (by decide) (by decide)).trans (show gV τ51 22 0 6 = (gV τ 22 0 6) from gV_put eτ51 (show gV τ31 22 0 6 = (gV τ 22 0 6) from (f33.1 22 0 (6) (by decide) (by decide)).trans rfl))))))
            have q102 : (gV τ96 23 0 150).toInt = (gV τ 23 0 150).toInt := congrArg Int32.toInt (show (gV τ96 23 0 150) = (gV τ 23 0 150) from (show gV τ96 23 0 150 = (gV τ 23 0 150) from (gV_putn eτ96 (Or.inr (Or.inr (by omega)))).trans (show gV τ87 23 0 150 = (gV τ 23 0 150) from (gV_putn eτ87 (Or.inr (Or.inr (by omega)))).trans (show gV τ71 23 0 150 = (gV τ 23 0 150) from (f73.1 23 0 (150) (by decide) (by decide)).trans (show gV τ51 23 0 150 = (gV τ 23 0 150) from (gV_putn eτ51 (Or.inr (Or.inr (by omega)))).trans (show gV τ31 23 0 150 = (gV τ 23 0 150) from (f33.1 23 0 (150) (by decide) (by decide)).trans rfl))))))
            have q103 : (gV τ96 23 0 152).toInt = (gV τ 23 0 152).toInt := congrArg Int32.toInt (show (gV τ96 23 0 152) = (gV τ 23 0 152) from (show gV τ96 23 0 152 = (gV τ 23 0 152) from (gV_putn eτ96 (Or.inr (Or.inr (by omega)))).trans (show gV τ87 23 0 152 = (gV τ 23 0 152) from (gV_putn eτ87 (Or.inr (Or.inr (by omega)))).trans (show gV τ71 23 0 152 = (gV τ 23 0 152) from (f73.1 23 0 (152) (by decide) (by decide)).trans (show gV τ51 23 0 152 = (gV τ 23 0 152) from (gV_putn eτ51 (Or.inr (Or.inr (by omega)))).trans (show gV τ31 23 0 152 = (gV τ 23 0 152) from (f33.1 23 0 (152) (by decide) (by decide)).trans rfl))))))
            have q104 : (gV τ96 23 0 188).toInt = (gV τ 23 0 188).toInt := congrArg Int32.toInt (show (gV τ96 23 0 188) = (gV τ 23 0 188) from (show gV τ96 23 0 188 = (gV τ 23 0 188) from (gV_putn eτ96 (Or.inr (Or.inr (by omega)))).trans (show gV τ87 23 0 188 = (gV τ 23 0 188) from (gV_putn eτ87 (Or.inr (Or.inr (by omega)))).trans (show gV τ71 23 0 188 = (gV τ 23 0 188) from (f73.1 23 0 (188) (by decide) (by decide)).trans (show gV τ51 23 0 188 = (gV τ 23 0 188) from (gV_putn eτ51 (Or.inr (Or.inr (by omega)))).trans (show gV τ31 23 0 188 = (gV τ 23 0 188) from (f33.1 23 0 (188) (by decide) (by decide)).trans rfl))))))
            have q105 : (gV τ96 22 0 11).toInt = (gV τ71 22 0 11).toInt := congrArg Int32.toInt (show (gV τ96 22 0 11) = (gV τ71 22 0 11) from (show gV τ96 22 0 11 = (gV τ71 22 0 11) from gV_put eτ96 (show gV τ87 22 0 11 = (gV τ71 22 0 11) from gV_put eτ87 rfl)))
            have q106 : (gV τ96 22 0 12).toInt = (gV τ71 22 0 12).toInt := congrArg Int32.toInt (show (gV τ96 22 0 12) = (gV τ71 22 0 12) from (show gV τ96 22 0 12 = (gV τ71 22 0 12) from gV_put eτ96 (show gV τ87 22 0 12 = (gV τ71 22 0 12) from gV_put eτ87 rfl)))
            have q107 : (gV τ96 22 0 13).toInt = (gV τ71 22 0 13).toInt := congrArg Int32.toInt (show (gV τ96 22 0 13) = (gV τ71 22 0 13) from (show gV τ96 22 0 13 = (gV τ71 22 0 13) from gV_put eτ96 (show gV τ87 22 0 13 = (gV τ71 22 0 13) from gV_put eτ87 rfl)))
            have q108 : (gV τ96 22 0 15).toInt = (gV τ71 22 0 15).toInt := congrArg Int32.toInt (show (gV τ96 22 0 15) = (gV τ71 22 0 15) from (show gV τ96 22 0 15 = (gV τ71 22 0 15) from gV_put eτ96 (show gV τ87 22 0 15 = (gV τ71 22 0 15) from gV_put eτ87 rfl)))
            have q109 : (gV τ96 22 0 16).toInt = (gV τ71 22 0 16).toInt := congrArg Int32.toInt (show (gV τ96 22 0 16) = (gV τ71 22 0 16) from (show gV τ96 22 0 16 = (gV τ71 22 0 16) from gV_put eτ96 (show gV τ87 22 0 16 = (gV τ71 22 0 16) from gV_put eτ87 rfl)))
            have v110 : CQ (gV σ 23 0 152).toInt.toNat τ96 := by
              intro q
              have q1 : gV τ96 23 0 (x92.toInt.toNat) = 0 := (show gV τ96 23 0 (x92.toInt.toNat) = 0 from gV_put eτ96 (gV_self _ _ _ _ _))
              rw [show 167 + (gV σ 23 0 152).toInt.toNat = (x92.toInt.toNat) by omega, q1]
              omega
            refine m_aload_n C dX12_takePerson_115 rfl rfl ?_
            refine g_22_16 C q4_132 dX12_takePerson_116 ?_
            refine m_eqs (w := (gV τ71 22 0 16)) (show gV τ96 22 0 16 = (gV τ71 22 0 16) from gV_put eτ96 (show gV τ87 22 0 16 = (gV τ71 22 0 16) from gV_put eτ87 rfl)) ?_
            refine m_if_ne (tgt := 142) C dX12_takePerson_119 (by decide) (fun c111 => ?_) (fun c111 => ?_)
            · have f112 : (gV τ71 22 0 16).toInt ≠ 0 := by
                have q : _ := c111
                simp only [ti_nle, ti_nlt, ti_le, ti_lt, ti_eq, ti_ne, Classical.not_not, kt_0] at q
                omega
              refine m_iconst (v := 0) C dX12_takePerson_142 (by decide) ?_
              refine m_istore_n (L1 := [some (.ref (G.1 22 0)), some (.int y1), some (.int z0), some (.int 0)]) C dX12_takePerson_143 rfl (by decide) rfl rfl ?_
              refine m_aload_n C dX12_takePerson_144 rfl rfl ?_
              refine g_22_0 C q4_116 dX12_takePerson_145 ?_
              refine m_sipush (v := 174) C dX12_takePerson_148 (by decide) ?_
              refine m_iload_n C dX12_takePerson_151 rfl rfl ?_
              refine m_iadd C dX12_takePerson_152 ?_
              refine m_topi (fun x113 ex113 => ?_)
              have tx113 : x113.toInt = 174 + y1.toInt := by rw [ex113, ti_addv kc_174 b_y1 (by decide), kt_174]
              have b114 : IV x113 174 180 := by rw [ex113]; exact iv_add kc_174 b_y1 (by decide)
              refine m_iload_n C dX12_takePerson_153 rfl rfl ?_
              refine m_bipush (v := 99) C dX12_takePerson_154 (by decide) ?_
              refine m_icmp_ne (tgt := 163) C dX12_takePerson_156 (by decide) (fun c115 => ?_) (fun c115 => ?_)
              · have f116 : 0 ≠ 99 := by
                  have q : _ := c115
                  simp only [ti_nle, ti_nlt, ti_le, ti_lt, ti_eq, ti_ne, Classical.not_not, kt_0, kt_99] at q
                  omega
                refine m_iload_n C dX12_takePerson_163 rfl rfl ?_
                refine as_23 C b114 (by decide) rfl dX12_takePerson_164 ?_
                refine m_tops (fun τ117 eτ117 => ?_)
                have i118 : Inv τ117 := eτ117 ▸ Inv.putR0 i97 (by omega) kt_0
                have f119 : Fr MS_X12_takePersonE AS_X12_takePersonE σ τ117 := eτ117 ▸ Fr.put (f98) (Or.inr (by decide))
                have v120 : CP (gV σ 23 0 152).toInt τ117 := v99.put eτ117 (Or.inr (fun q hq => by omega))
                have v121 : TpM τ117 T N := v100.put eτ117 (Or.inl (by decide)) (by decide)
                have v122 : CQ (gV σ 23 0 152).toInt.toNat τ117 := v110.put eτ117 (Or.inl (by decide)) (Or.inr (by omega))
                refine m_aload_n C dX12_takePerson_165 rfl rfl ?_
                refine g_22_0 C q4_116 dX12_takePerson_166 ?_
                refine m_sipush (v := 181) C dX12_takePerson_169 (by decide) ?_
                refine m_iload_n C dX12_takePerson_172 rfl rfl ?_
                refine m_iadd C dX12_takePerson_173 ?_
                refine m_topi (fun x123 ex123 => ?_)
                have tx123 : x123.toInt = 181 + y1.toInt := by rw [ex123, ti_addv kc_181 b_y1 (by decide), kt_181]
                have b124 : IV x123 181 187 := by rw [ex123]; exact iv_add kc_181 b_y1 (by decide)
                refine m_iconst (v := 0) C dX12_takePerson_174 (by decide) ?_
                refine as_23 C b124 (by decide) rfl dX12_takePerson_175 ?_
                refine m_tops (fun τ125 eτ125 => ?_)
                have i126 : Inv τ125 := eτ125 ▸ Inv.putR0 i118 (by omega) kt_0
                have f127 : Fr MS_X12_takePersonE AS_X12_takePersonE σ τ125 := eτ125 ▸ Fr.put (f119) (Or.inr (by decide))
                have v128 : CP (gV σ 23 0 152).toInt τ125 := v120.put eτ125 (Or.inr (fun q hq => by omega))
                have v129 : TpM τ125 T N := v121.put eτ125 (Or.inl (by decide)) (by decide)
                have v130 : CQ (gV σ 23 0 152).toInt.toNat τ125 := v122.put eτ125 (Or.inl (by decide)) (Or.inr (by omega))
                refine m_aload_n C dX12_takePerson_176 rfl rfl ?_
                refine g_22_0 C q4_116 dX12_takePerson_177 ?_
                refine m_sipush (v := 152) C dX12_takePerson_180 (by decide) ?_
                refine m_dup2 C dX12_takePerson_183 rfl rfl ?_
                refine al_23 C kc_152 (by decide) kn_152 dX12_takePerson_184 ?_
                refine m_eqs (w := (gV τ 23 0 152)) (show gV τ125 23 0 152 = (gV τ 23 0 152) from (gV_putn eτ125 (Or.inr (Or.inr (by omega)))).trans (show gV τ117 23 0 152 = (gV τ 23 0 152) from (gV_putn eτ117 (Or.inr (Or.inr (by omega)))).trans (show gV τ96 23 0 152 = (gV τ 23 0 152) from (gV_putn eτ96 (Or.inr (Or.inr (by omega)))).trans (show gV τ87 23 0 152 = (gV τ 23 0 152) from (gV_putn eτ87 (Or.inr (Or.inr (by omega)))).trans (show gV τ71 23 0 152 = (gV τ 23 0 152) from (f73.1 23 0 (152) (by decide) (by decide)).trans (show gV τ51 23 0 152 = (gV τ 23 0 152) from (gV_putn eτ51 (Or.inr (Or.inr (by omega)))).trans (show gV τ31 23 0 152 = (gV τ 23 0 152) from (f33.1 23 0 (152) (by decide) (by decide)).trans rfl))))))) ?_
                refine m_iconst (v := 1) C dX12_takePerson_185 (by decide) ?_
                refine m_iadd C dX12_takePerson_186 ?_
                refine m_topi (fun x131 ex131 => ?_)
                have tx131 : x131.toInt = (gV τ 23 0 152).toInt + 1 := by rw [ex131, ti_addv u3 kc_1 (by decide), kt_1]
                have b132 : IV x131 1 8 := by rw [ex131]; exact iv_add u3 kc_1 (by decide)
                refine as_23 C kc_152 (by decide) kn_152 dX12_takePerson_187 ?_
                refine m_tops (fun τ133 eτ133 => ?_)
                have i134 : Inv τ133 := eτ133 ▸ Inv.putR i126 (by decide) (iv_wk b132 (by decide))
                have f135 : Fr MS_X12_takePersonE AS_X12_takePersonE σ τ133 := eτ133 ▸ Fr.put (f127) (Or.inr (by decide))
                have v136 : CP (gV σ 23 0 152).toInt τ133 := v128.put eτ133 (Or.inr (fun q hq => by omega))
                have v137 : TpM τ133 T N := v129.put eτ133 (Or.inl (by decide)) (by decide)
                have v138 : CQ (gV σ 23 0 152).toInt.toNat τ133 := v130.put eτ133 (Or.inl (by decide)) (Or.inr (by omega))
                refine m_aload_n C dX12_takePerson_188 rfl rfl ?_
                have q139 : (gV τ133 22 0 6).toInt = (gV τ 22 0 6).toInt := congrArg Int32.toInt (show (gV τ133 22 0 6) = (gV τ 22 0 6) from (show gV τ133 22 0 6 = (gV τ 22 0 6) from gV_put eτ133 (show gV τ125 22 0 6 = (gV τ 22 0 6) from gV_put eτ125 (show gV τ117 22 0 6 = (gV τ 22 0 6) from gV_put eτ117 (show gV τ96 22 0 6 = (gV τ 22 0 6) from gV_put eτ96 (show gV τ87 22 0 6 = (gV τ 22 0 6) from gV_put eτ87 (show gV τ71 22 0 6 = (gV τ 22 0 6) from (f73.1 22 0 (6) (by decide) (by decide)).trans (show gV τ51 22 0 6 = (gV τ 22 0 6) from gV_put eτ51 (show gV τ31 22 0 6 = (gV τ 22 0 6) from (f33.1 22 0 (6) (by decide) (by decide)).trans rfl)))))))))
                have q140 : (gV τ133 23 0 150).toInt = (gV τ 23 0 150).toInt := congrArg Int32.toInt (show (gV τ133 23 0 150) = (gV τ 23 0 150) from (show gV τ133 23 0 150 = (gV τ 23 0 150) from gV_put eτ133 (show gV τ125 23 0 150 = (gV τ 23 0 150) from (gV_putn eτ125 (Or.inr (Or.inr (by omega)))).trans (show gV τ117 23 0 150 = (gV τ 23 0 150) from (gV_putn eτ117 (Or.inr (Or.inr (by omega)))).trans (show gV τ96 23 0 150 = (gV τ 23 0 150) from (gV_putn eτ96 (Or.inr (Or.inr (by omega)))).trans (show gV τ87 23 0 150 = (gV τ 23 0 150) from (gV_putn eτ87 (Or.inr (Or.inr (by omega)))).trans (show gV τ71 23 0 150 = (gV τ 23 0 150) from (f73.1 23 0 (150) (by decide) (by decide)).trans (show gV τ51 23 0 150 = (gV τ 23 0 150) from (gV_putn eτ51 (Or.inr (Or.inr (by omega)))).trans (show gV τ31 23 0 150 = (gV τ 23 0 150) from (f33.1 23 0 (150) (by decide) (by decide)).trans rfl)))))))))
                have q141 : (gV τ133 23 0 188).toInt = (gV τ 23 0 188).toInt := congrArg Int32.toInt (show (gV τ133 23 0 188) = (gV τ 23 0 188) from (show gV τ133 23 0 188 = (gV τ 23 0 188) from gV_put eτ133 (show gV τ125 23 0 188 = (gV τ 23 0 188) from (gV_putn eτ125 (Or.inr (Or.inr (by omega)))).trans (show gV τ117 23 0 188 = (gV τ 23 0 188) from (gV_putn eτ117 (Or.inr (Or.inr (by omega)))).trans (show gV τ96 23 0 188 = (gV τ 23 0 188) from (gV_putn eτ96 (Or.inr (Or.inr (by omega)))).trans (show gV τ87 23 0 188 = (gV τ 23 0 188) from (gV_putn eτ87 (Or.inr (Or.inr (by omega)))).trans (show gV τ71 23 0 188 = (gV τ 23 0 188) from (f73.1 23 0 (188) (by decide) (by decide)).trans (show gV τ51 23 0 188 = (gV τ 23 0 188) from (gV_putn eτ51 (Or.inr (Or.inr (by omega)))).trans (show gV τ31 23 0 188 = (gV τ 23 0 188) from (f33.1 23 0 (188) (by decide) (by decide)).trans rfl)))))))))
                have q142 : (gV τ133 22 0 11).toInt = (gV τ71 22 0 11).toInt := congrArg Int32.toInt (show (gV τ133 22 0 11) = (gV τ71 22 0 11) from (show gV τ133 22 0 11 = (gV τ71 22 0 11) from gV_put eτ133 (show gV τ125 22 0 11 = (gV τ71 22 0 11) from gV_put eτ125 (show gV τ117 22 0 11 = (gV τ71 22 0 11) from gV_put eτ117 (show gV τ96 22 0 11 = (gV τ71 22 0 11) from gV_put eτ96 (show gV τ87 22 0 11 = (gV τ71 22 0 11) from gV_put eτ87 rfl))))))
                have q143 : (gV τ133 22 0 12).toInt = (gV τ71 22 0 12).toInt := congrArg Int32.toInt (show (gV τ133 22 0 12) = (gV τ71 22 0 12) from (show gV τ133 22 0 12 = (gV τ71 22 0 12) from gV_put eτ133 (show gV τ125 22 0 12 = (gV τ71 22 0 12) from gV_put eτ125 (show gV τ117 22 0 12 = (gV τ71 22 0 12) from gV_put eτ117 (show gV τ96 22 0 12 = (gV τ71 22 0 12) from gV_put eτ96 (show gV τ87 22 0 12 = (gV τ71 22 0 12) from gV_put eτ87 rfl))))))
                have q144 : (gV τ133 22 0 13).toInt = (gV τ71 22 0 13).toInt := congrArg Int32.toInt (show (gV τ133 22 0 13) = (gV τ71 22 0 13) from (show gV τ133 22 0 13 = (gV τ71 22 0 13) from gV_put eτ133 (show gV τ125 22 0 13 = (gV τ71 22 0 13) from gV_put eτ125 (show gV τ117 22 0 13 = (gV τ71 22 0 13) from gV_put eτ117 (show gV τ96 22 0 13 = (gV τ71 22 0 13) from gV_put eτ96 (show gV τ87 22 0 13 = (gV τ71 22 0 13) from gV_put eτ87 rfl))))))
                have q145 : (gV τ133 22 0 15).toInt = (gV τ71 22 0 15).toInt := congrArg Int32.toInt (show (gV τ133 22 0 15) = (gV τ71 22 0 15) from (show gV τ133 22 0 15 = (gV τ71 22 0 15) from gV_put eτ133 (show gV τ125 22 0 15 = (gV τ71 22 0 15) from gV_put eτ125 (show gV τ117 22 0 15 = (gV τ71 22 0 15) from gV_put eτ117 (show gV τ96 22 0 15 = (gV τ71 22 0 15) from gV_put eτ96 (show gV τ87 22 0 15 = (gV τ71 22 0 15) from gV_put eτ87 rfl))))))
                have q146 : (gV τ133 22 0 16).toInt = (gV τ71 22 0 16).toInt := congrArg Int32.toInt (show (gV τ133 22 0 16) = (gV τ71 22 0 16) from (show gV τ133 22 0 16 = (gV τ71 22 0 16) from gV_put eτ133 (show gV τ125 22 0 16 = (gV τ71 22 0 16) from gV_put eτ125 (show gV τ117 22 0 16 = (gV τ71 22 0 16) from gV_put eτ117 (show gV τ96 22 0 16 = (gV τ71 22 0 16) from gV_put eτ96 (show gV τ87 22 0 16 = (gV τ71 22 0 16) from gV_put eτ87 rfl))))))
                have q147 : (gV τ133 23 0 152).toInt = x131.toInt := congrArg Int32.toInt (show (gV τ133 23 0 152) = x131 from (show gV τ133 23 0 152 = x131 from gV_put eτ133 (gV_self _ _ _ _ _)))
                refine m_callV (n := 0) (ci := 11) (st := []) C (c_X12_takeSignE l G τ133 T N (tE T N (tE T N (tE T N i)))  i134 v137 (by omega) (by omega)) (by decide) (by decide) rfl rfl rfl q5_15 q5_12 q5_14 q0_32 q1_7 (by decide +kernel) rfl (by decide) (by decide) rfl (Nat.le_of_ble_eq_true rfl) dX12_takePerson_189 ?_
                rintro _ τ148 ⟨rfl, i149, f150, h154⟩
                have g153 : Fr MS_X12_takePersonE AS_X12_takePersonE σ τ148 := Fr.call (f135) f150 (by decide)
                have v155 : CP (gV σ 23 0 152).toInt τ148 := v136.call (fun k => f150.1 23 0 k (by simp) (by decide))
                have v156 : TpM τ148 T N := v137.fr f150 (by decide) (by decide) (by simp) (by decide)
                have u157 : IV (gV τ148 22 0 11) 0 400 := i149.1 22 0 11
                have q158 : (gV τ148 22 0 6).toInt = (gV τ 22 0 6).toInt := congrArg Int32.toInt (show (gV τ148 22 0 6) = (gV τ 22 0 6) from (show gV τ148 22 0 6 = (gV τ 22 0 6) from (f150.1 22 0 (6) (by decide) (by decide)).trans (show gV τ133 22 0 6 = (gV τ 22 0 6) from gV_put eτ133 (show gV τ125 22 0 6 = (gV τ 22 0 6) from gV_put eτ125 (show gV τ117 22 0 6 = (gV τ 22 0 6) from gV_put eτ117 (show gV τ96 22 0 6 = (gV τ 22 0 6) from gV_put eτ96 (show gV τ87 22 0 6 = (gV τ 22 0 6) from gV_put eτ87 (show gV τ71 22 0 6 = (gV τ 22 0 6) from (f73.1 22 0 (6) (by decide) (by decide)).trans (show gV τ51 22 0 6 = (gV τ 22 0 6) from gV_put eτ51 (show gV τ31 22 0 6 = (gV τ 22 0 6) from (f33.1 22 0 (6) (by decide) (by decide)).trans rfl))))))))))
                have q159 : (gV τ148 23 0 150).toInt = (gV τ 23 0 150).toInt := congrArg Int32.toInt (show (gV τ148 23 0 150) = (gV τ 23 0 150) from (show gV τ148 23 0 150 = (gV τ 23 0 150) from (f150.1 23 0 (150) (by decide) (by decide)).trans (show gV τ133 23 0 150 = (gV τ 23 0 150) from gV_put eτ133 (show gV τ125 23 0 150 = (gV τ 23 0 150) from (gV_putn eτ125 (Or.inr (Or.inr (by omega)))).trans (show gV τ117 23 0 150 = (gV τ 23 0 150) from (gV_putn eτ117 (Or.inr (Or.inr (by omega)))).trans (show gV τ96 23 0 150 = (gV τ 23 0 150) from (gV_putn eτ96 (Or.inr (Or.inr (by omega)))).trans (show gV τ87 23 0 150 = (gV τ 23 0 150) from (gV_putn eτ87 (Or.inr (Or.inr (by omega)))).trans (show gV τ71 23 0 150 = (gV τ 23 0 150) from (f73.1 23 0 (150) (by decide) (by decide)).trans (show gV τ51 23 0 150 = (gV τ 23 0 150) from (gV_putn eτ51 (Or.inr (Or.inr (by omega)))).trans (show gV τ31 23 0 150 = (gV τ 23 0 150) from (f33.1 23 0 (150) (by decide) (by decide)).trans rfl))))))))))
                have q160 : (gV τ148 23 0 188).toInt = (gV τ 23 0 188).toInt := congrArg Int32.toInt (show (gV τ148 23 0 188) = (gV τ 23 0 188) from (show gV τ148 23 0 188 = (gV τ 23 0 188) from (f150.1 23 0 (188) (by decide) (by decide)).trans (show gV τ133 23 0 188 = (gV τ 23 0 188) from gV_put eτ133 (show gV τ125 23 0 188 = (gV τ 23 0 188) from (gV_putn eτ125 (Or.inr (Or.inr (by omega)))).trans (show gV τ117 23 0 188 = (gV τ 23 0 188) from (gV_putn eτ117 (Or.inr (Or.inr (by omega)))).trans (show gV τ96 23 0 188 = (gV τ 23 0 188) from (gV_putn eτ96 (Or.inr (Or.inr (by omega)))).trans (show gV τ87 23 0 188 = (gV τ 23 0 188) from (gV_putn eτ87 (Or.inr (Or.inr (by omega)))).trans (show gV τ71 23 0 188 = (gV τ 23 0 188) from (f73.1 23 0 (188) (by decide) (by decide)).trans (show gV τ51 23 0 188 = (gV τ 23 0 188) from (gV_putn eτ51 (Or.inr (Or.inr (by omega)))).trans (show gV τ31 23 0 188 = (gV τ 23 0 188) from (f33.1 23 0 (188) (by decide) (by decide)).trans rfl))))))))))
                have q161 : (gV τ148 23 0 152).toInt = x131.toInt := congrArg Int32.toInt (show (gV τ148 23 0 152) = x131 from (show gV τ148 23 0 152 = x131 from (f150.1 23 0 (152) (by decide) (by decide)).trans (show gV τ133 23 0 152 = x131 from gV_put eτ133 (gV_self _ _ _ _ _))))
                rcases h154 with ⟨h154_0, h154_1, h154_2, h154_3⟩ | ⟨h154_0, h154_1, h154_2, h154_3, h154_4⟩ | ⟨h154_0, h154_1, h154_2, h154_3, h154_4, h154_5⟩
                · skip
                  have v162 : CQ (gV σ 23 0 152).toInt.toNat τ148 := v138.call (fun q => by omega) (fun k => f150.1 23 0 k (by simp) (by decide))
                  show MW p l e _ s m args below meth c _ 4 G 0 0 192 [some (.ref (G.1 22 0)), some (.int y1), some (.int z0), some (.int 0)] [] τ148
                  exact m_vret C hr hlk (by decide) (by decide) dX12_takePerson_192 ⟨rfl, i149, g153, (by have qd := per_2 T N st cc i (by omega) (by omega) (by omega); exact Or.inl ⟨by omega, by omega, by omega, by omega, by omega, by omega⟩)⟩
                · skip
                  exfalso; omega
                · skip
                  exfalso; omega
              · first | exact absurd c115 (by decide) | exact absurd (by decide) c115
            · exfalso
              have q : _ := c111
              simp only [ti_nle, ti_nlt, ti_le, ti_lt, ti_eq, ti_ne, Classical.not_not, kt_0] at q
              have q1 := b86; have q2 := kc_0; omega
          · exfalso
            have q : _ := c94
            simp only [ti_nle, ti_nlt, ti_le, ti_lt, ti_eq, ti_ne, Classical.not_not, kt_0] at q
            have q1 := b86; have q2 := kc_0; omega
        · skip
          have b166 : IV x74 (-1) (-1) := ⟨by omega, by omega⟩
          have b167 : IV (gV τ71 22 0 16) 2 2 := ⟨by omega, by omega⟩
          show MW p l e _ s m args below meth c _ 4 G 0 0 86 [some (.ref (G.1 22 0)), some (.int y1), some (.int z0), none] [.int x74, .int x57, .ref (G.1 23 0)] τ71
          refine as_23 C b58 (by decide) rfl dX12_takePerson_86 ?_
          refine m_tops (fun τ168 eτ168 => ?_)
          have i169 : Inv τ168 := eτ168 ▸ Inv.putRo i72 (by omega)
          have f170 : Fr MS_X12_takePersonE AS_X12_takePersonE σ τ168 := eτ168 ▸ Fr.put (g76) (Or.inr (by decide))
          have v171 : CP (gV σ 23 0 152).toInt τ168 := v78.put eτ168 (Or.inr (fun q hq => by omega))
          have v172 : TpM τ168 T N := v79.put eτ168 (Or.inl (by decide)) (by decide)
          refine m_aload_n C dX12_takePerson_87 rfl rfl ?_
          refine g_22_0 C q4_116 dX12_takePerson_88 ?_
          refine m_sipush (v := 167) C dX12_takePerson_91 (by decide) ?_
          refine m_iload_n C dX12_takePerson_94 rfl rfl ?_
          refine m_iadd C dX12_takePerson_95 ?_
          refine m_topi (fun x173 ex173 => ?_)
          have tx173 : x173.toInt = 167 + y1.toInt := by rw [ex173, ti_addv kc_167 b_y1 (by decide), kt_167]
          have b174 : IV x173 167 173 := by rw [ex173]; exact iv_add kc_167 b_y1 (by decide)
          refine m_aload_n C dX12_takePerson_96 rfl rfl ?_
          refine g_22_16 C q4_132 dX12_takePerson_97 ?_
          refine m_eqs (w := (gV τ71 22 0 16)) (show gV τ168 22 0 16 = (gV τ71 22 0 16) from gV_put eτ168 rfl) ?_
          refine m_if_ne (tgt := 113) C dX12_takePerson_100 (by decide) (fun c175 => ?_) (fun c175 => ?_)
          · have f176 : (gV τ71 22 0 16).toInt ≠ 0 := by
              have q : _ := c175
              simp only [ti_nle, ti_nlt, ti_le, ti_lt, ti_eq, ti_ne, Classical.not_not, kt_0] at q
              omega
            refine m_iconst (v := 0) C dX12_takePerson_113 (by decide) ?_
            refine as_23 C b174 (by decide) rfl dX12_takePerson_114 ?_
            refine m_tops (fun τ177 eτ177 => ?_)
            have i178 : Inv τ177 := eτ177 ▸ Inv.putR0 i169 (by omega) kt_0
            have f179 : Fr MS_X12_takePersonE AS_X12_takePersonE σ τ177 := eτ177 ▸ Fr.put (f170) (Or.inr (by decide))
            have v180 : CP (gV σ 23 0 152).toInt τ177 := v171.put eτ177 (Or.inr (fun q hq => by omega))
            have v181 : TpM τ177 T N := v172.put eτ177 (Or.inl (by decide)) (by decide)
            have q182 : (gV τ177 22 0 6).toInt = (gV τ 22 0 6).toInt := congrArg Int32.toInt (show (gV τ177 22 0 6) = (gV τ 22 0 6) from (show gV τ177 22 0 6 = (gV τ 22 0 6) from gV_put eτ177 (show gV τ168 22 0 6 = (gV τ 22 0 6) from gV_put eτ168 (show gV τ71 22 0 6 = (gV τ 22 0 6) from (f73.1 22 0 (6) (by decide) (by decide)).trans (show gV τ51 22 0 6 = (gV τ 22 0 6) from gV_put eτ51 (show gV τ31 22 0 6 = (gV τ 22 0 6) from (f33.1 22 0 (6) (by decide) (by decide)).trans rfl))))))
            have q183 : (gV τ177 23 0 150).toInt = (gV τ 23 0 150).toInt := congrArg Int32.toInt (show (gV τ177 23 0 150) = (gV τ 23 0 150) from (show gV τ177 23 0 150 = (gV τ 23 0 150) from (gV_putn eτ177 (Or.inr (Or.inr (by omega)))).trans (show gV τ168 23 0 150 = (gV τ 23 0 150) from (gV_putn eτ168 (Or.inr (Or.inr (by omega)))).trans (show gV τ71 23 0 150 = (gV τ 23 0 150) from (f73.1 23 0 (150) (by decide) (by decide)).trans (show gV τ51 23 0 150 = (gV τ 23 0 150) from (gV_putn eτ51 (Or.inr (Or.inr (by omega)))).trans (show gV τ31 23 0 150 = (gV τ 23 0 150) from (f33.1 23 0 (150) (by decide) (by decide)).trans rfl))))))
            have q184 : (gV τ177 23 0 152).toInt = (gV τ 23 0 152).toInt := congrArg Int32.toInt (show (gV τ177 23 0 152) = (gV τ 23 0 152) from (show gV τ177 23 0 152 = (gV τ 23 0 152) from (gV_putn eτ177 (Or.inr (Or.inr (by omega)))).trans (show gV τ168 23 0 152 = (gV τ 23 0 152) from (gV_putn eτ168 (Or.inr (Or.inr (by omega)))).trans (show gV τ71 23 0 152 = (gV τ 23 0 152) from (f73.1 23 0 (152) (by decide) (by decide)).trans (show gV τ51 23 0 152 = (gV τ 23 0 152) from (gV_putn eτ51 (Or.inr (Or.inr (by omega)))).trans (show gV τ31 23 0 152 = (gV τ 23 0 152) from (f33.1 23 0 (152) (by decide) (by decide)).trans rfl))))))
            have q185 : (gV τ177 23 0 188).toInt = (gV τ 23 0 188).toInt := congrArg Int32.toInt (show (gV τ177 23 0 188) = (gV τ 23 0 188) from (show gV τ177 23 0 188 = (gV τ 23 0 188) from (gV_putn eτ177 (Or.inr (Or.inr (by omega)))).trans (show gV τ168 23 0 188 = (gV τ 23 0 188) from (gV_putn eτ168 (Or.inr (Or.inr (by omega)))).trans (show gV τ71 23 0 188 = (gV τ 23 0 188) from (f73.1 23 0 (188) (by decide) (by decide)).trans (show gV τ51 23 0 188 = (gV τ 23 0 188) from (gV_putn eτ51 (Or.inr (Or.inr (by omega)))).trans (show gV τ31 23 0 188 = (gV τ 23 0 188) from (f33.1 23 0 (188) (by decide) (by decide)).trans rfl))))))
            have q186 : (gV τ177 22 0 11).toInt = (gV τ71 22 0 11).toInt := congrArg Int32.toInt (show (gV τ177 22 0 11) = (gV τ71 22 0 11) from (show gV τ177 22 0 11 = (gV τ71 22 0 11) from gV_put eτ177 (show gV τ168 22 0 11 = (gV τ71 22 0 11) from gV_put eτ168 rfl)))
            have q187 : (gV τ177 22 0 12).toInt = (gV τ71 22 0 12).toInt := congrArg Int32.toInt (show (gV τ177 22 0 12) = (gV τ71 22 0 12) from (show gV τ177 22 0 12 = (gV τ71 22 0 12) from gV_put eτ177 (show gV τ168 22 0 12 = (gV τ71 22 0 12) from gV_put eτ168 rfl)))
            have q188 : (gV τ177 22 0 13).toInt = (gV τ71 22 0 13).toInt := congrArg Int32.toInt (show (gV τ177 22 0 13) = (gV τ71 22 0 13) from (show gV τ177 22 0 13 = (gV τ71 22 0 13) from gV_put eτ177 (show gV τ168 22 0 13 = (gV τ71 22 0 13) from gV_put eτ168 rfl)))
            have q189 : (gV τ177 22 0 15).toInt = (gV τ71 22 0 15).toInt := congrArg Int32.toInt (show (gV τ177 22 0 15) = (gV τ71 22 0 15) from (show gV τ177 22 0 15 = (gV τ71 22 0 15) from gV_put eτ177 (show gV τ168 22 0 15 = (gV τ71 22 0 15) from gV_put eτ168 rfl)))
            have q190 : (gV τ177 22 0 16).toInt = (gV τ71 22 0 16).toInt := congrArg Int32.toInt (show (gV τ177 22 0 16) = (gV τ71 22 0 16) from (show gV τ177 22 0 16 = (gV τ71 22 0 16) from gV_put eτ177 (show gV τ168 22 0 16 = (gV τ71 22 0 16) from gV_put eτ168 rfl)))
            have v191 : CQ (gV σ 23 0 152).toInt.toNat τ177 := by
              intro q
              have q1 : gV τ177 23 0 (x173.toInt.toNat) = 0 := (show gV τ177 23 0 (x173.toInt.toNat) = 0 from gV_put eτ177 (gV_self _ _ _ _ _))
              rw [show 167 + (gV σ 23 0 152).toInt.toNat = (x173.toInt.toNat) by omega, q1]
              omega
            refine m_aload_n C dX12_takePerson_115 rfl rfl ?_
            refine g_22_16 C q4_132 dX12_takePerson_116 ?_
            refine m_eqs (w := (gV τ71 22 0 16)) (show gV τ177 22 0 16 = (gV τ71 22 0 16) from gV_put eτ177 (show gV τ168 22 0 16 = (gV τ71 22 0 16) from gV_put eτ168 rfl)) ?_
            refine m_if_ne (tgt := 142) C dX12_takePerson_119 (by decide) (fun c192 => ?_) (fun c192 => ?_)
            · have f193 : (gV τ71 22 0 16).toInt ≠ 0 := by
                have q : _ := c192
                simp only [ti_nle, ti_nlt, ti_le, ti_lt, ti_eq, ti_ne, Classical.not_not, kt_0] at q
                omega
              refine m_iconst (v := 0) C dX12_takePerson_142 (by decide) ?_
              refine m_istore_n (L1 := [some (.ref (G.1 22 0)), some (.int y1), some (.int z0), some (.int 0)]) C dX12_takePerson_143 rfl (by decide) rfl rfl ?_
              refine m_aload_n C dX12_takePerson_144 rfl rfl ?_
              refine g_22_0 C q4_116 dX12_takePerson_145 ?_
              refine m_sipush (v := 174) C dX12_takePerson_148 (by decide) ?_
              refine m_iload_n C dX12_takePerson_151 rfl rfl ?_
              refine m_iadd C dX12_takePerson_152 ?_
              refine m_topi (fun x194 ex194 => ?_)
              have tx194 : x194.toInt = 174 + y1.toInt := by rw [ex194, ti_addv kc_174 b_y1 (by decide), kt_174]
              have b195 : IV x194 174 180 := by rw [ex194]; exact iv_add kc_174 b_y1 (by decide)
              refine m_iload_n C dX12_takePerson_153 rfl rfl ?_
              refine m_bipush (v := 99) C dX12_takePerson_154 (by decide) ?_
              refine m_icmp_ne (tgt := 163) C dX12_takePerson_156 (by decide) (fun c196 => ?_) (fun c196 => ?_)
              · have f197 : 0 ≠ 99 := by
                  have q : _ := c196
                  simp only [ti_nle, ti_nlt, ti_le, ti_lt, ti_eq, ti_ne, Classical.not_not, kt_0, kt_99] at q
                  omega
                refine m_iload_n C dX12_takePerson_163 rfl rfl ?_
                refine as_23 C b195 (by decide) rfl dX12_takePerson_164 ?_
                refine m_tops (fun τ198 eτ198 => ?_)
                have i199 : Inv τ198 := eτ198 ▸ Inv.putR0 i178 (by omega) kt_0
                have f200 : Fr MS_X12_takePersonE AS_X12_takePersonE σ τ198 := eτ198 ▸ Fr.put (f179) (Or.inr (by decide))
                have v201 : CP (gV σ 23 0 152).toInt τ198 := v180.put eτ198 (Or.inr (fun q hq => by omega))
                have v202 : TpM τ198 T N := v181.put eτ198 (Or.inl (by decide)) (by decide)
                have v203 : CQ (gV σ 23 0 152).toInt.toNat τ198 := v191.put eτ198 (Or.inl (by decide)) (Or.inr (by omega))
                refine m_aload_n C dX12_takePerson_165 rfl rfl ?_
                refine g_22_0 C q4_116 dX12_takePerson_166 ?_
                refine m_sipush (v := 181) C dX12_takePerson_169 (by decide) ?_
                refine m_iload_n C dX12_takePerson_172 rfl rfl ?_
                refine m_iadd C dX12_takePerson_173 ?_
                refine m_topi (fun x204 ex204 => ?_)
                have tx204 : x204.toInt = 181 + y1.toInt := by rw [ex204, ti_addv kc_181 b_y1 (by decide), kt_181]
                have b205 : IV x204 181 187 := by rw [ex204]; exact iv_add kc_181 b_y1 (by decide)
                refine m_iconst (v := 0) C dX12_takePerson_174 (by decide) ?_
                refine as_23 C b205 (by decide) rfl dX12_takePerson_175 ?_
                refine m_tops (fun τ206 eτ206 => ?_)
                have i207 : Inv τ206 := eτ206 ▸ Inv.putR0 i199 (by omega) kt_0
                have f208 : Fr MS_X12_takePersonE AS_X12_takePersonE σ τ206 := eτ206 ▸ Fr.put (f200) (Or.inr (by decide))
                have v209 : CP (gV σ 23 0 152).toInt τ206 := v201.put eτ206 (Or.inr (fun q hq => by omega))
                have v210 : TpM τ206 T N := v202.put eτ206 (Or.inl (by decide)) (by decide)
                have v211 : CQ (gV σ 23 0 152).toInt.toNat τ206 := v203.put eτ206 (Or.inl (by decide)) (Or.inr (by omega))
                refine m_aload_n C dX12_takePerson_176 rfl rfl ?_
                refine g_22_0 C q4_116 dX12_takePerson_177 ?_
                refine m_sipush (v := 152) C dX12_takePerson_180 (by decide) ?_
                refine m_dup2 C dX12_takePerson_183 rfl rfl ?_
                refine al_23 C kc_152 (by decide) kn_152 dX12_takePerson_184 ?_
                refine m_eqs (w := (gV τ 23 0 152)) (show gV τ206 23 0 152 = (gV τ 23 0 152) from (gV_putn eτ206 (Or.inr (Or.inr (by omega)))).trans (show gV τ198 23 0 152 = (gV τ 23 0 152) from (gV_putn eτ198 (Or.inr (Or.inr (by omega)))).trans (show gV τ177 23 0 152 = (gV τ 23 0 152) from (gV_putn eτ177 (Or.inr (Or.inr (by omega)))).trans (show gV τ168 23 0 152 = (gV τ 23 0 152) from (gV_putn eτ168 (Or.inr (Or.inr (by omega)))).trans (show gV τ71 23 0 152 = (gV τ 23 0 152) from (f73.1 23 0 (152) (by decide) (by decide)).trans (show gV τ51 23 0 152 = (gV τ 23 0 152) from (gV_putn eτ51 (Or.inr (Or.inr (by omega)))).trans (show gV τ31 23 0 152 = (gV τ 23 0 152) from (f33.1 23 0 (152) (by decide) (by decide)).trans rfl))))))) ?_
                refine m_iconst (v := 1) C dX12_takePerson_185 (by decide) ?_
                refine m_iadd C dX12_takePerson_186 ?_
                refine m_topi (fun x212 ex212 => ?_)
                have tx212 : x212.toInt = (gV τ 23 0 152).toInt + 1 := by rw [ex212, ti_addv u3 kc_1 (by decide), kt_1]
                have b213 : IV x212 1 8 := by rw [ex212]; exact iv_add u3 kc_1 (by decide)
                refine as_23 C kc_152 (by decide) kn_152 dX12_takePerson_187 ?_
                refine m_tops (fun τ214 eτ214 => ?_)
                have i215 : Inv τ214 := eτ214 ▸ Inv.putR i207 (by decide) (iv_wk b213 (by decide))
                have f216 : Fr MS_X12_takePersonE AS_X12_takePersonE σ τ214 := eτ214 ▸ Fr.put (f208) (Or.inr (by decide))
                have v217 : CP (gV σ 23 0 152).toInt τ214 := v209.put eτ214 (Or.inr (fun q hq => by omega))
                have v218 : TpM τ214 T N := v210.put eτ214 (Or.inl (by decide)) (by decide)
                have v219 : CQ (gV σ 23 0 152).toInt.toNat τ214 := v211.put eτ214 (Or.inl (by decide)) (Or.inr (by omega))
                refine m_aload_n C dX12_takePerson_188 rfl rfl ?_
                have q220 : (gV τ214 22 0 6).toInt = (gV τ 22 0 6).toInt := congrArg Int32.toInt (show (gV τ214 22 0 6) = (gV τ 22 0 6) from (show gV τ214 22 0 6 = (gV τ 22 0 6) from gV_put eτ214 (show gV τ206 22 0 6 = (gV τ 22 0 6) from gV_put eτ206 (show gV τ198 22 0 6 = (gV τ 22 0 6) from gV_put eτ198 (show gV τ177 22 0 6 = (gV τ 22 0 6) from gV_put eτ177 (show gV τ168 22 0 6 = (gV τ 22 0 6) from gV_put eτ168 (show gV τ71 22 0 6 = (gV τ 22 0 6) from (f73.1 22 0 (6) (by decide) (by decide)).trans (show gV τ51 22 0 6 = (gV τ 22 0 6) from gV_put eτ51 (show gV τ31 22 0 6 = (gV τ 22 0 6) from (f33.1 22 0 (6) (by decide) (by decide)).trans rfl)))))))))
                have q221 : (gV τ214 23 0 150).toInt = (gV τ 23 0 150).toInt := congrArg Int32.toInt (show (gV τ214 23 0 150) = (gV τ 23 0 150) from (show gV τ214 23 0 150 = (gV τ 23 0 150) from gV_put eτ214 (show gV τ206 23 0 150 = (gV τ 23 0 150) from (gV_putn eτ206 (Or.inr (Or.inr (by omega)))).trans (show gV τ198 23 0 150 = (gV τ 23 0 150) from (gV_putn eτ198 (Or.inr (Or.inr (by omega)))).trans (show gV τ177 23 0 150 = (gV τ 23 0 150) from (gV_putn eτ177 (Or.inr (Or.inr (by omega)))).trans (show gV τ168 23 0 150 = (gV τ 23 0 150) from (gV_putn eτ168 (Or.inr (Or.inr (by omega)))).trans (show gV τ71 23 0 150 = (gV τ 23 0 150) from (f73.1 23 0 (150) (by decide) (by decide)).trans (show gV τ51 23 0 150 = (gV τ 23 0 150) from (gV_putn eτ51 (Or.inr (Or.inr (by omega)))).trans (show gV τ31 23 0 150 = (gV τ 23 0 150) from (f33.1 23 0 (150) (by decide) (by decide)).trans rfl)))))))))
                have q222 : (gV τ214 23 0 188).toInt = (gV τ 23 0 188).toInt := congrArg Int32.toInt (show (gV τ214 23 0 188) = (gV τ 23 0 188) from (show gV τ214 23 0 188 = (gV τ 23 0 188) from gV_put eτ214 (show gV τ206 23 0 188 = (gV τ 23 0 188) from (gV_putn eτ206 (Or.inr (Or.inr (by omega)))).trans (show gV τ198 23 0 188 = (gV τ 23 0 188) from (gV_putn eτ198 (Or.inr (Or.inr (by omega)))).trans (show gV τ177 23 0 188 = (gV τ 23 0 188) from (gV_putn eτ177 (Or.inr (Or.inr (by omega)))).trans (show gV τ168 23 0 188 = (gV τ 23 0 188) from (gV_putn eτ168 (Or.inr (Or.inr (by omega)))).trans (show gV τ71 23 0 188 = (gV τ 23 0 188) from (f73.1 23 0 (188) (by decide) (by decide)).trans (show gV τ51 23 0 188 = (gV τ 23 0 188) from (gV_putn eτ51 (Or.inr (Or.inr (by omega)))).trans (show gV τ31 23 0 188 = (gV τ 23 0 188) from (f33.1 23 0 (188) (by decide) (by decide)).trans rfl)))))))))
                have q223 : (gV τ214 22 0 11).toInt = (gV τ71 22 0 11).toInt := congrArg Int32.toInt (show (gV τ214 22 0 11) = (gV τ71 22 0 11) from (show gV τ214 22 0 11 = (gV τ71 22 0 11) from gV_put eτ214 (show gV τ206 22 0 11 = (gV τ71 22 0 11) from gV_put eτ206 (show gV τ198 22 0 11 = (gV τ71 22 0 11) from gV_put eτ198 (show gV τ177 22 0 11 = (gV τ71 22 0 11) from gV_put eτ177 (show gV τ168 22 0 11 = (gV τ71 22 0 11) from gV_put eτ168 rfl))))))
                have q224 : (gV τ214 22 0 12).toInt = (gV τ71 22 0 12).toInt := congrArg Int32.toInt (show (gV τ214 22 0 12) = (gV τ71 22 0 12) from (show gV τ214 22 0 12 = (gV τ71 22 0 12) from gV_put eτ214 (show gV τ206 22 0 12 = (gV τ71 22 0 12) from gV_put eτ206 (show gV τ198 22 0 12 = (gV τ71 22 0 12) from gV_put eτ198 (show gV τ177 22 0 12 = (gV τ71 22 0 12) from gV_put eτ177 (show gV τ168 22 0 12 = (gV τ71 22 0 12) from gV_put eτ168 rfl))))))
                have q225 : (gV τ214 22 0 13).toInt = (gV τ71 22 0 13).toInt := congrArg Int32.toInt (show (gV τ214 22 0 13) = (gV τ71 22 0 13) from (show gV τ214 22 0 13 = (gV τ71 22 0 13) from gV_put eτ214 (show gV τ206 22 0 13 = (gV τ71 22 0 13) from gV_put eτ206 (show gV τ198 22 0 13 = (gV τ71 22 0 13) from gV_put eτ198 (show gV τ177 22 0 13 = (gV τ71 22 0 13) from gV_put eτ177 (show gV τ168 22 0 13 = (gV τ71 22 0 13) from gV_put eτ168 rfl))))))
                have q226 : (gV τ214 22 0 15).toInt = (gV τ71 22 0 15).toInt := congrArg Int32.toInt (show (gV τ214 22 0 15) = (gV τ71 22 0 15) from (show gV τ214 22 0 15 = (gV τ71 22 0 15) from gV_put eτ214 (show gV τ206 22 0 15 = (gV τ71 22 0 15) from gV_put eτ206 (show gV τ198 22 0 15 = (gV τ71 22 0 15) from gV_put eτ198 (show gV τ177 22 0 15 = (gV τ71 22 0 15) from gV_put eτ177 (show gV τ168 22 0 15 = (gV τ71 22 0 15) from gV_put eτ168 rfl))))))
                have q227 : (gV τ214 22 0 16).toInt = (gV τ71 22 0 16).toInt := congrArg Int32.toInt (show (gV τ214 22 0 16) = (gV τ71 22 0 16) from (show gV τ214 22 0 16 = (gV τ71 22 0 16) from gV_put eτ214 (show gV τ206 22 0 16 = (gV τ71 22 0 16) from gV_put eτ206 (show gV τ198 22 0 16 = (gV τ71 22 0 16) from gV_put eτ198 (show gV τ177 22 0 16 = (gV τ71 22 0 16) from gV_put eτ177 (show gV τ168 22 0 16 = (gV τ71 22 0 16) from gV_put eτ168 rfl))))))
                have q228 : (gV τ214 23 0 152).toInt = x212.toInt := congrArg Int32.toInt (show (gV τ214 23 0 152) = x212 from (show gV τ214 23 0 152 = x212 from gV_put eτ214 (gV_self _ _ _ _ _)))
                refine m_callV (n := 0) (ci := 11) (st := []) C (c_X12_takeSignE l G τ214 T N (tE T N (tE T N (tE T N i)))  i215 v218 (by omega) (by omega)) (by decide) (by decide) rfl rfl rfl q5_15 q5_12 q5_14 q0_32 q1_7 (by decide +kernel) rfl (by decide) (by decide) rfl (Nat.le_of_ble_eq_true rfl) dX12_takePerson_189 ?_
                rintro _ τ229 ⟨rfl, i230, f231, h235⟩
                have g234 : Fr MS_X12_takePersonE AS_X12_takePersonE σ τ229 := Fr.call (f216) f231 (by decide)
                have v236 : CP (gV σ 23 0 152).toInt τ229 := v217.call (fun k => f231.1 23 0 k (by simp) (by decide))
                have v237 : TpM τ229 T N := v218.fr f231 (by decide) (by decide) (by simp) (by decide)
                have u238 : IV (gV τ229 22 0 11) 0 400 := i230.1 22 0 11
                have q239 : (gV τ229 22 0 6).toInt = (gV τ 22 0 6).toInt := congrArg Int32.toInt (show (gV τ229 22 0 6) = (gV τ 22 0 6) from (show gV τ229 22 0 6 = (gV τ 22 0 6) from (f231.1 22 0 (6) (by decide) (by decide)).trans (show gV τ214 22 0 6 = (gV τ 22 0 6) from gV_put eτ214 (show gV τ206 22 0 6 = (gV τ 22 0 6) from gV_put eτ206 (show gV τ198 22 0 6 = (gV τ 22 0 6) from gV_put eτ198 (show gV τ177 22 0 6 = (gV τ 22 0 6) from gV_put eτ177 (show gV τ168 22 0 6 = (gV τ 22 0 6) from gV_put eτ168 (show gV τ71 22 0 6 = (gV τ 22 0 6) from (f73.1 22 0 (6) (by decide) (by decide)).trans (show gV τ51 22 0 6 = (gV τ 22 0 6) from gV_put eτ51 (show gV τ31 22 0 6 = (gV τ 22 0 6) from (f33.1 22 0 (6) (by decide) (by decide)).trans rfl))))))))))
                have q240 : (gV τ229 23 0 150).toInt = (gV τ 23 0 150).toInt := congrArg Int32.toInt (show (gV τ229 23 0 150) = (gV τ 23 0 150) from (show gV τ229 23 0 150 = (gV τ 23 0 150) from (f231.1 23 0 (150) (by decide) (by decide)).trans (show gV τ214 23 0 150 = (gV τ 23 0 150) from gV_put eτ214 (show gV τ206 23 0 150 = (gV τ 23 0 150) from (gV_putn eτ206 (Or.inr (Or.inr (by omega)))).trans (show gV τ198 23 0 150 = (gV τ 23 0 150) from (gV_putn eτ198 (Or.inr (Or.inr (by omega)))).trans (show gV τ177 23 0 150 = (gV τ 23 0 150) from (gV_putn eτ177 (Or.inr (Or.inr (by omega)))).trans (show gV τ168 23 0 150 = (gV τ 23 0 150) from (gV_putn eτ168 (Or.inr (Or.inr (by omega)))).trans (show gV τ71 23 0 150 = (gV τ 23 0 150) from (f73.1 23 0 (150) (by decide) (by decide)).trans (show gV τ51 23 0 150 = (gV τ 23 0 150) from (gV_putn eτ51 (Or.inr (Or.inr (by omega)))).trans (show gV τ31 23 0 150 = (gV τ 23 0 150) from (f33.1 23 0 (150) (by decide) (by decide)).trans rfl))))))))))
                have q241 : (gV τ229 23 0 188).toInt = (gV τ 23 0 188).toInt := congrArg Int32.toInt (show (gV τ229 23 0 188) = (gV τ 23 0 188) from (show gV τ229 23 0 188 = (gV τ 23 0 188) from (f231.1 23 0 (188) (by decide) (by decide)).trans (show gV τ214 23 0 188 = (gV τ 23 0 188) from gV_put eτ214 (show gV τ206 23 0 188 = (gV τ 23 0 188) from (gV_putn eτ206 (Or.inr (Or.inr (by omega)))).trans (show gV τ198 23 0 188 = (gV τ 23 0 188) from (gV_putn eτ198 (Or.inr (Or.inr (by omega)))).trans (show gV τ177 23 0 188 = (gV τ 23 0 188) from (gV_putn eτ177 (Or.inr (Or.inr (by omega)))).trans (show gV τ168 23 0 188 = (gV τ 23 0 188) from (gV_putn eτ168 (Or.inr (Or.inr (by omega)))).trans (show gV τ71 23 0 188 = (gV τ 23 0 188) from (f73.1 23 0 (188) (by decide) (by decide)).trans (show gV τ51 23 0 188 = (gV τ 23 0 188) from (gV_putn eτ51 (Or.inr (Or.inr (by omega)))).trans (show gV τ31 23 0 188 = (gV τ 23 0 188) from (f33.1 23 0 (188) (by decide) (by decide)).trans rfl))))))))))
                have q242 : (gV τ229 23 0 152).toInt = x212.toInt := congrArg Int32.toInt (show (gV τ229 23 0 152) = x212 from (show gV τ229 23 0 152 = x212 from (f231.1 23 0 (152) (by decide) (by decide)).trans (show gV τ214 23 0 152 = x212 from gV_put eτ214 (gV_self _ _ _ _ _))))
                rcases h235 with ⟨h235_0, h235_1, h235_2, h235_3⟩ | ⟨h235_0, h235_1, h235_2, h235_3, h235_4⟩ | ⟨h235_0, h235_1, h235_2, h235_3, h235_4, h235_5⟩
                · skip
                  have v243 : CQ (gV σ 23 0 152).toInt.toNat τ229 := v219.call (fun q => by omega) (fun k => f231.1 23 0 k (by simp) (by decide))
                  show MW p l e _ s m args below meth c _ 4 G 0 0 192 [some (.ref (G.1 22 0)), some (.int y1), some (.int z0), some (.int 0)] [] τ229
                  exact m_vret C hr hlk (by decide) (by decide) dX12_takePerson_192 ⟨rfl, i230, g234, (by have qd := per_3 T N st cc i (by omega) (by omega) (by omega) (by omega); exact Or.inl ⟨by omega, by omega, by omega, by omega, by omega, by omega⟩)⟩
                · skip
                  exfalso; omega
                · skip
                  exfalso; omega
              · first | exact absurd c196 (by decide) | exact absurd (by decide) c196
            · exfalso
              have q : _ := c192
              simp only [ti_nle, ti_nlt, ti_le, ti_lt, ti_eq, ti_ne, Classical.not_not, kt_0] at q
              have q1 := b167; have q2 := kc_0; omega
          · exfalso
            have q : _ := c175
            simp only [ti_nle, ti_nlt, ti_le, ti_lt, ti_eq, ti_ne, Classical.not_not, kt_0] at q
            have q1 := b167; have q2 := kc_0; omega
        · skip
          have q247 : 1 ≤ tV T (tE T N (tE T N i)) ∧ tV T (tE T N (tE T N i)) ≤ 20 := by omega
          clear h77_1
          have b248 : IV (gV τ71 22 0 16) 0 0 := ⟨by omega, by omega⟩
          show MW p l e _ s m args below meth c _ 4 G 0 0 86 [some (.ref (G.1 22 0)), some (.int y1), some (.int z0), none] [.int x74, .int x57, .ref (G.1 23 0)] τ71
          refine as_23 C b58 (by decide) rfl dX12_takePerson_86 ?_
          refine m_tops (fun τ249 eτ249 => ?_)
          have i250 : Inv τ249 := eτ249 ▸ Inv.putRo i72 (by omega)
          have f251 : Fr MS_X12_takePersonE AS_X12_takePersonE σ τ249 := eτ249 ▸ Fr.put (g76) (Or.inr (by decide))
          have v252 : CP (gV σ 23 0 152).toInt τ249 := v78.put eτ249 (Or.inr (fun q hq => by omega))
          have v253 : TpM τ249 T N := v79.put eτ249 (Or.inl (by decide)) (by decide)
          have v254 : LW T N (tE T N (tE T N (tE T N i))) τ249.2.2.1 := by rw [eτ249]; exact h77_6
          refine m_aload_n C dX12_takePerson_87 rfl rfl ?_
          refine g_22_0 C q4_116 dX12_takePerson_88 ?_
          refine m_sipush (v := 167) C dX12_takePerson_91 (by decide) ?_
          refine m_iload_n C dX12_takePerson_94 rfl rfl ?_
          refine m_iadd C dX12_takePerson_95 ?_
          refine m_topi (fun x255 ex255 => ?_)
          have tx255 : x255.toInt = 167 + y1.toInt := by rw [ex255, ti_addv kc_167 b_y1 (by decide), kt_167]
          have b256 : IV x255 167 173 := by rw [ex255]; exact iv_add kc_167 b_y1 (by decide)
          refine m_aload_n C dX12_takePerson_96 rfl rfl ?_
          refine g_22_16 C q4_132 dX12_takePerson_97 ?_
          refine m_eqs (w := (gV τ71 22 0 16)) (show gV τ249 22 0 16 = (gV τ71 22 0 16) from gV_put eτ249 rfl) ?_
          refine m_if_ne (tgt := 113) C dX12_takePerson_100 (by decide) (fun c257 => ?_) (fun c257 => ?_)
          · exfalso
            have q : _ := c257
            simp only [ti_nle, ti_nlt, ti_le, ti_lt, ti_eq, ti_ne, Classical.not_not, kt_0] at q
            have q1 := b248; have q2 := kc_0; omega
          · have f259 : (gV τ71 22 0 16).toInt = 0 := by
              have q : _ := c257
              simp only [ti_nle, ti_nlt, ti_le, ti_lt, ti_eq, ti_ne, Classical.not_not, kt_0] at q
              omega
            refine m_aload_n C dX12_takePerson_103 rfl rfl ?_
            refine m_iconst (v := 1) C dX12_takePerson_104 (by decide) ?_
            refine m_iconst (v := 4) C dX12_takePerson_105 (by decide) ?_
            refine m_iconst (v := 1) C dX12_takePerson_106 (by decide) ?_
            have q260 : (gV τ249 22 0 6).toInt = (gV τ 22 0 6).toInt := congrArg Int32.toInt (show (gV τ249 22 0 6) = (gV τ 22 0 6) from (show gV τ249 22 0 6 = (gV τ 22 0 6) from gV_put eτ249 (show gV τ71 22 0 6 = (gV τ 22 0 6) from (f73.1 22 0 (6) (by decide) (by decide)).trans (show gV τ51 22 0 6 = (gV τ 22 0 6) from gV_put eτ51 (show gV τ31 22 0 6 = (gV τ 22 0 6) from (f33.1 22 0 (6) (by decide) (by decide)).trans rfl)))))
            have q261 : (gV τ249 23 0 150).toInt = (gV τ 23 0 150).toInt := congrArg Int32.toInt (show (gV τ249 23 0 150) = (gV τ 23 0 150) from (show gV τ249 23 0 150 = (gV τ 23 0 150) from (gV_putn eτ249 (Or.inr (Or.inr (by omega)))).trans (show gV τ71 23 0 150 = (gV τ 23 0 150) from (f73.1 23 0 (150) (by decide) (by decide)).trans (show gV τ51 23 0 150 = (gV τ 23 0 150) from (gV_putn eτ51 (Or.inr (Or.inr (by omega)))).trans (show gV τ31 23 0 150 = (gV τ 23 0 150) from (f33.1 23 0 (150) (by decide) (by decide)).trans rfl)))))
            have q262 : (gV τ249 23 0 152).toInt = (gV τ 23 0 152).toInt := congrArg Int32.toInt (show (gV τ249 23 0 152) = (gV τ 23 0 152) from (show gV τ249 23 0 152 = (gV τ 23 0 152) from (gV_putn eτ249 (Or.inr (Or.inr (by omega)))).trans (show gV τ71 23 0 152 = (gV τ 23 0 152) from (f73.1 23 0 (152) (by decide) (by decide)).trans (show gV τ51 23 0 152 = (gV τ 23 0 152) from (gV_putn eτ51 (Or.inr (Or.inr (by omega)))).trans (show gV τ31 23 0 152 = (gV τ 23 0 152) from (f33.1 23 0 (152) (by decide) (by decide)).trans rfl)))))
            have q263 : (gV τ249 23 0 188).toInt = (gV τ 23 0 188).toInt := congrArg Int32.toInt (show (gV τ249 23 0 188) = (gV τ 23 0 188) from (show gV τ249 23 0 188 = (gV τ 23 0 188) from (gV_putn eτ249 (Or.inr (Or.inr (by omega)))).trans (show gV τ71 23 0 188 = (gV τ 23 0 188) from (f73.1 23 0 (188) (by decide) (by decide)).trans (show gV τ51 23 0 188 = (gV τ 23 0 188) from (gV_putn eτ51 (Or.inr (Or.inr (by omega)))).trans (show gV τ31 23 0 188 = (gV τ 23 0 188) from (f33.1 23 0 (188) (by decide) (by decide)).trans rfl)))))
            have q264 : (gV τ249 22 0 11).toInt = (gV τ71 22 0 11).toInt := congrArg Int32.toInt (show (gV τ249 22 0 11) = (gV τ71 22 0 11) from (show gV τ249 22 0 11 = (gV τ71 22 0 11) from gV_put eτ249 rfl))
            have q265 : (gV τ249 22 0 12).toInt = (gV τ71 22 0 12).toInt := congrArg Int32.toInt (show (gV τ249 22 0 12) = (gV τ71 22 0 12) from (show gV τ249 22 0 12 = (gV τ71 22 0 12) from gV_put eτ249 rfl))
            have q266 : (gV τ249 22 0 13).toInt = (gV τ71 22 0 13).toInt := congrArg Int32.toInt (show (gV τ249 22 0 13) = (gV τ71 22 0 13) from (show gV τ249 22 0 13 = (gV τ71 22 0 13) from gV_put eτ249 rfl))
            have q267 : (gV τ249 22 0 15).toInt = (gV τ71 22 0 15).toInt := congrArg Int32.toInt (show (gV τ249 22 0 15) = (gV τ71 22 0 15) from (show gV τ249 22 0 15 = (gV τ71 22 0 15) from gV_put eτ249 rfl))
            have q268 : (gV τ249 22 0 16).toInt = (gV τ71 22 0 16).toInt := congrArg Int32.toInt (show (gV τ249 22 0 16) = (gV τ71 22 0 16) from (show gV τ249 22 0 16 = (gV τ71 22 0 16) from gV_put eτ249 rfl))
            have q269 := kt_1
            have q270 := kt_4
            have q271 := kt_1
            refine m_callV (n := 3) (ci := 11) (st := [.int x255, .ref (G.1 23 0)]) C (c_X12_takeNumberE l G τ249 T N (tE T N (tE T N (tE T N i))) (1) (4) (1) i250 v253 (by omega) (by omega)) (by decide) (by decide) rfl rfl rfl q5_7 q5_4 q5_6 q0_30 q1_7 (by decide +kernel) rfl (by decide) (by decide) rfl (Nat.le_of_ble_eq_true rfl) dX12_takePerson_107 ?_
            rintro _ τ272 ⟨x275, rfl, i273, f274, b276, h278⟩
            have g277 : Fr MS_X12_takePersonE AS_X12_takePersonE σ τ272 := Fr.call (f251) f274 (by decide)
            clear h77_4
            have v279 : CP (gV σ 23 0 152).toInt τ272 := v252.call (fun k => f274.1 23 0 k (by simp) (by decide))
            have v280 : TpM τ272 T N := v253.fr f274 (by decide) (by decide) (by simp) (by decide)
            have u281 : IV (gV τ272 22 0 11) 0 400 := i273.1 22 0 11
            have q282 : (gV τ272 22 0 6).toInt = (gV τ 22 0 6).toInt := congrArg Int32.toInt (show (gV τ272 22 0 6) = (gV τ 22 0 6) from (show gV τ272 22 0 6 = (gV τ 22 0 6) from (f274.1 22 0 (6) (by decide) (by decide)).trans (show gV τ249 22 0 6 = (gV τ 22 0 6) from gV_put eτ249 (show gV τ71 22 0 6 = (gV τ 22 0 6) from (f73.1 22 0 (6) (by decide) (by decide)).trans (show gV τ51 22 0 6 = (gV τ 22 0 6) from gV_put eτ51 (show gV τ31 22 0 6 = (gV τ 22 0 6) from (f33.1 22 0 (6) (by decide) (by decide)).trans rfl))))))
            have q283 : (gV τ272 23 0 150).toInt = (gV τ 23 0 150).toInt := congrArg Int32.toInt (show (gV τ272 23 0 150) = (gV τ 23 0 150) from (show gV τ272 23 0 150 = (gV τ 23 0 150) from (f274.1 23 0 (150) (by decide) (by decide)).trans (show gV τ249 23 0 150 = (gV τ 23 0 150) from (gV_putn eτ249 (Or.inr (Or.inr (by omega)))).trans (show gV τ71 23 0 150 = (gV τ 23 0 150) from (f73.1 23 0 (150) (by decide) (by decide)).trans (show gV τ51 23 0 150 = (gV τ 23 0 150) from (gV_putn eτ51 (Or.inr (Or.inr (by omega)))).trans (show gV τ31 23 0 150 = (gV τ 23 0 150) from (f33.1 23 0 (150) (by decide) (by decide)).trans rfl))))))
            have q284 : (gV τ272 23 0 152).toInt = (gV τ 23 0 152).toInt := congrArg Int32.toInt (show (gV τ272 23 0 152) = (gV τ 23 0 152) from (show gV τ272 23 0 152 = (gV τ 23 0 152) from (f274.1 23 0 (152) (by decide) (by decide)).trans (show gV τ249 23 0 152 = (gV τ 23 0 152) from (gV_putn eτ249 (Or.inr (Or.inr (by omega)))).trans (show gV τ71 23 0 152 = (gV τ 23 0 152) from (f73.1 23 0 (152) (by decide) (by decide)).trans (show gV τ51 23 0 152 = (gV τ 23 0 152) from (gV_putn eτ51 (Or.inr (Or.inr (by omega)))).trans (show gV τ31 23 0 152 = (gV τ 23 0 152) from (f33.1 23 0 (152) (by decide) (by decide)).trans rfl))))))
            have q285 : (gV τ272 23 0 188).toInt = (gV τ 23 0 188).toInt := congrArg Int32.toInt (show (gV τ272 23 0 188) = (gV τ 23 0 188) from (show gV τ272 23 0 188 = (gV τ 23 0 188) from (f274.1 23 0 (188) (by decide) (by decide)).trans (show gV τ249 23 0 188 = (gV τ 23 0 188) from (gV_putn eτ249 (Or.inr (Or.inr (by omega)))).trans (show gV τ71 23 0 188 = (gV τ 23 0 188) from (f73.1 23 0 (188) (by decide) (by decide)).trans (show gV τ51 23 0 188 = (gV τ 23 0 188) from (gV_putn eτ51 (Or.inr (Or.inr (by omega)))).trans (show gV τ31 23 0 188 = (gV τ 23 0 188) from (f33.1 23 0 (188) (by decide) (by decide)).trans rfl))))))
            rcases h278 with ⟨h278_0, h278_1, h278_2, h278_3, h278_4⟩ | ⟨h278_0, h278_1, h278_2, h278_3, h278_4, h278_5, h278_6⟩ | ⟨h278_0, h278_1, h278_2, h278_3, h278_4, h278_5, h278_6⟩
            · skip
              have b286 : IV x275 (-1) (-1) := ⟨by omega, by omega⟩
              have b287 : IV (gV τ272 22 0 16) 1 1 := ⟨by omega, by omega⟩
              show MW p l e _ s m args below meth c _ 4 G 0 0 110 [some (.ref (G.1 22 0)), some (.int y1), some (.int z0), none] [.int x275, .int x255, .ref (G.1 23 0)] τ272
              refine m_goto (tgt := 114) C dX12_takePerson_110 (by decide) ?_
              refine as_23 C b256 (by decide) rfl dX12_takePerson_114 ?_
              refine m_tops (fun τ288 eτ288 => ?_)
              have i289 : Inv τ288 := eτ288 ▸ Inv.putRo i273 (by omega)
              have f290 : Fr MS_X12_takePersonE AS_X12_takePersonE σ τ288 := eτ288 ▸ Fr.put (g277) (Or.inr (by decide))
              have v291 : CP (gV σ 23 0 152).toInt τ288 := v279.put eτ288 (Or.inr (fun q hq => by omega))
              have v292 : TpM τ288 T N := v280.put eτ288 (Or.inl (by decide)) (by decide)
              have q293 : (gV τ288 22 0 6).toInt = (gV τ 22 0 6).toInt := congrArg Int32.toInt (show (gV τ288 22 0 6) = (gV τ 22 0 6) from (show gV τ288 22 0 6 = (gV τ 22 0 6) from gV_put eτ288 (show gV τ272 22 0 6 = (gV τ 22 0 6) from (f274.1 22 0 (6) (by decide) (by decide)).trans (show gV τ249 22 0 6 = (gV τ 22 0 6) from gV_put eτ249 (show gV τ71 22 0 6 = (gV τ 22 0 6) from (f73.1 22 0 (6) (by decide) (by decide)).trans (show gV τ51 22 0 6 = (gV τ 22 0 6) from gV_put eτ51 (show gV τ31 22 0 6 = (gV τ 22 0 6) from (f33.1 22 0 (6) (by decide) (by decide)).trans rfl)))))))
              have q294 : (gV τ288 23 0 150).toInt = (gV τ 23 0 150).toInt := congrArg Int32.toInt (show (gV τ288 23 0 150) = (gV τ 23 0 150) from (show gV τ288 23 0 150 = (gV τ 23 0 150) from (gV_putn eτ288 (Or.inr (Or.inr (by omega)))).trans (show gV τ272 23 0 150 = (gV τ 23 0 150) from (f274.1 23 0 (150) (by decide) (by decide)).trans (show gV τ249 23 0 150 = (gV τ 23 0 150) from (gV_putn eτ249 (Or.inr (Or.inr (by omega)))).trans (show gV τ71 23 0 150 = (gV τ 23 0 150) from (f73.1 23 0 (150) (by decide) (by decide)).trans (show gV τ51 23 0 150 = (gV τ 23 0 150) from (gV_putn eτ51 (Or.inr (Or.inr (by omega)))).trans (show gV τ31 23 0 150 = (gV τ 23 0 150) from (f33.1 23 0 (150) (by decide) (by decide)).trans rfl)))))))
              have q295 : (gV τ288 23 0 152).toInt = (gV τ 23 0 152).toInt := congrArg Int32.toInt (show (gV τ288 23 0 152) = (gV τ 23 0 152) from (show gV τ288 23 0 152 = (gV τ 23 0 152) from (gV_putn eτ288 (Or.inr (Or.inr (by omega)))).trans (show gV τ272 23 0 152 = (gV τ 23 0 152) from (f274.1 23 0 (152) (by decide) (by decide)).trans (show gV τ249 23 0 152 = (gV τ 23 0 152) from (gV_putn eτ249 (Or.inr (Or.inr (by omega)))).trans (show gV τ71 23 0 152 = (gV τ 23 0 152) from (f73.1 23 0 (152) (by decide) (by decide)).trans (show gV τ51 23 0 152 = (gV τ 23 0 152) from (gV_putn eτ51 (Or.inr (Or.inr (by omega)))).trans (show gV τ31 23 0 152 = (gV τ 23 0 152) from (f33.1 23 0 (152) (by decide) (by decide)).trans rfl)))))))
              have q296 : (gV τ288 23 0 188).toInt = (gV τ 23 0 188).toInt := congrArg Int32.toInt (show (gV τ288 23 0 188) = (gV τ 23 0 188) from (show gV τ288 23 0 188 = (gV τ 23 0 188) from (gV_putn eτ288 (Or.inr (Or.inr (by omega)))).trans (show gV τ272 23 0 188 = (gV τ 23 0 188) from (f274.1 23 0 (188) (by decide) (by decide)).trans (show gV τ249 23 0 188 = (gV τ 23 0 188) from (gV_putn eτ249 (Or.inr (Or.inr (by omega)))).trans (show gV τ71 23 0 188 = (gV τ 23 0 188) from (f73.1 23 0 (188) (by decide) (by decide)).trans (show gV τ51 23 0 188 = (gV τ 23 0 188) from (gV_putn eτ51 (Or.inr (Or.inr (by omega)))).trans (show gV τ31 23 0 188 = (gV τ 23 0 188) from (f33.1 23 0 (188) (by decide) (by decide)).trans rfl)))))))
              have q297 : (gV τ288 22 0 11).toInt = (gV τ272 22 0 11).toInt := congrArg Int32.toInt (show (gV τ288 22 0 11) = (gV τ272 22 0 11) from (show gV τ288 22 0 11 = (gV τ272 22 0 11) from gV_put eτ288 rfl))
              have q298 : (gV τ288 22 0 12).toInt = (gV τ272 22 0 12).toInt := congrArg Int32.toInt (show (gV τ288 22 0 12) = (gV τ272 22 0 12) from (show gV τ288 22 0 12 = (gV τ272 22 0 12) from gV_put eτ288 rfl))
              have q299 : (gV τ288 22 0 13).toInt = (gV τ272 22 0 13).toInt := congrArg Int32.toInt (show (gV τ288 22 0 13) = (gV τ272 22 0 13) from (show gV τ288 22 0 13 = (gV τ272 22 0 13) from gV_put eτ288 rfl))
              have q300 : (gV τ288 22 0 15).toInt = (gV τ272 22 0 15).toInt := congrArg Int32.toInt (show (gV τ288 22 0 15) = (gV τ272 22 0 15) from (show gV τ288 22 0 15 = (gV τ272 22 0 15) from gV_put eτ288 rfl))
              have q301 : (gV τ288 22 0 16).toInt = (gV τ272 22 0 16).toInt := congrArg Int32.toInt (show (gV τ288 22 0 16) = (gV τ272 22 0 16) from (show gV τ288 22 0 16 = (gV τ272 22 0 16) from gV_put eτ288 rfl))
              have v302 : CQ (gV σ 23 0 152).toInt.toNat τ288 := by
                intro q
                have q1 : gV τ288 23 0 (x255.toInt.toNat) = x275 := (show gV τ288 23 0 (x255.toInt.toNat) = x275 from gV_put eτ288 (gV_self _ _ _ _ _))
                rw [show 167 + (gV σ 23 0 152).toInt.toNat = (x255.toInt.toNat) by omega, q1]
                omega
              refine m_aload_n C dX12_takePerson_115 rfl rfl ?_
              refine g_22_16 C q4_132 dX12_takePerson_116 ?_
              refine m_eqs (w := (gV τ272 22 0 16)) (show gV τ288 22 0 16 = (gV τ272 22 0 16) from gV_put eτ288 rfl) ?_
              refine m_if_ne (tgt := 142) C dX12_takePerson_119 (by decide) (fun c303 => ?_) (fun c303 => ?_)
              · have f304 : (gV τ272 22 0 16).toInt ≠ 0 := by
                  have q : _ := c303
                  simp only [ti_nle, ti_nlt, ti_le, ti_lt, ti_eq, ti_ne, Classical.not_not, kt_0] at q
                  omega
                refine m_iconst (v := 0) C dX12_takePerson_142 (by decide) ?_
                refine m_istore_n (L1 := [some (.ref (G.1 22 0)), some (.int y1), some (.int z0), some (.int 0)]) C dX12_takePerson_143 rfl (by decide) rfl rfl ?_
                refine m_aload_n C dX12_takePerson_144 rfl rfl ?_
                refine g_22_0 C q4_116 dX12_takePerson_145 ?_
                refine m_sipush (v := 174) C dX12_takePerson_148 (by decide) ?_
                refine m_iload_n C dX12_takePerson_151 rfl rfl ?_
                refine m_iadd C dX12_takePerson_152 ?_
                refine m_topi (fun x305 ex305 => ?_)
                have tx305 : x305.toInt = 174 + y1.toInt := by rw [ex305, ti_addv kc_174 b_y1 (by decide), kt_174]
                have b306 : IV x305 174 180 := by rw [ex305]; exact iv_add kc_174 b_y1 (by decide)
                refine m_iload_n C dX12_takePerson_153 rfl rfl ?_
                refine m_bipush (v := 99) C dX12_takePerson_154 (by decide) ?_
                refine m_icmp_ne (tgt := 163) C dX12_takePerson_156 (by decide) (fun c307 => ?_) (fun c307 => ?_)
                · have f308 : 0 ≠ 99 := by
                    have q : _ := c307
                    simp only [ti_nle, ti_nlt, ti_le, ti_lt, ti_eq, ti_ne, Classical.not_not, kt_0, kt_99] at q
                    omega
                  refine m_iload_n C dX12_takePerson_163 rfl rfl ?_
                  refine as_23 C b306 (by decide) rfl dX12_takePerson_164 ?_
                  refine m_tops (fun τ309 eτ309 => ?_)
                  have i310 : Inv τ309 := eτ309 ▸ Inv.putR0 i289 (by omega) kt_0
                  have f311 : Fr MS_X12_takePersonE AS_X12_takePersonE σ τ309 := eτ309 ▸ Fr.put (f290) (Or.inr (by decide))
                  have v312 : CP (gV σ 23 0 152).toInt τ309 := v291.put eτ309 (Or.inr (fun q hq => by omega))
                  have v313 : TpM τ309 T N := v292.put eτ309 (Or.inl (by decide)) (by decide)
                  have v314 : CQ (gV σ 23 0 152).toInt.toNat τ309 := v302.put eτ309 (Or.inl (by decide)) (Or.inr (by omega))
                  refine m_aload_n C dX12_takePerson_165 rfl rfl ?_
                  refine g_22_0 C q4_116 dX12_takePerson_166 ?_
                  refine m_sipush (v := 181) C dX12_takePerson_169 (by decide) ?_
                  refine m_iload_n C dX12_takePerson_172 rfl rfl ?_
                  refine m_iadd C dX12_takePerson_173 ?_
                  refine m_topi (fun x315 ex315 => ?_)
                  have tx315 : x315.toInt = 181 + y1.toInt := by rw [ex315, ti_addv kc_181 b_y1 (by decide), kt_181]
                  have b316 : IV x315 181 187 := by rw [ex315]; exact iv_add kc_181 b_y1 (by decide)
                  refine m_iconst (v := 0) C dX12_takePerson_174 (by decide) ?_
                  refine as_23 C b316 (by decide) rfl dX12_takePerson_175 ?_
                  refine m_tops (fun τ317 eτ317 => ?_)
                  have i318 : Inv τ317 := eτ317 ▸ Inv.putR0 i310 (by omega) kt_0
                  have f319 : Fr MS_X12_takePersonE AS_X12_takePersonE σ τ317 := eτ317 ▸ Fr.put (f311) (Or.inr (by decide))
                  have v320 : CP (gV σ 23 0 152).toInt τ317 := v312.put eτ317 (Or.inr (fun q hq => by omega))
                  have v321 : TpM τ317 T N := v313.put eτ317 (Or.inl (by decide)) (by decide)
                  have v322 : CQ (gV σ 23 0 152).toInt.toNat τ317 := v314.put eτ317 (Or.inl (by decide)) (Or.inr (by omega))
                  refine m_aload_n C dX12_takePerson_176 rfl rfl ?_
                  refine g_22_0 C q4_116 dX12_takePerson_177 ?_
                  refine m_sipush (v := 152) C dX12_takePerson_180 (by decide) ?_
                  refine m_dup2 C dX12_takePerson_183 rfl rfl ?_
                  refine al_23 C kc_152 (by decide) kn_152 dX12_takePerson_184 ?_
                  refine m_eqs (w := (gV τ 23 0 152)) (show gV τ317 23 0 152 = (gV τ 23 0 152) from (gV_putn eτ317 (Or.inr (Or.inr (by omega)))).trans (show gV τ309 23 0 152 = (gV τ 23 0 152) from (gV_putn eτ309 (Or.inr (Or.inr (by omega)))).trans (show gV τ288 23 0 152 = (gV τ 23 0 152) from (gV_putn eτ288 (Or.inr (Or.inr (by omega)))).trans (show gV τ272 23 0 152 = (gV τ 23 0 152) from (f274.1 23 0 (152) (by decide) (by decide)).trans (show gV τ249 23 0 152 = (gV τ 23 0 152) from (gV_putn eτ249 (Or.inr (Or.inr (by omega)))).trans (show gV τ71 23 0 152 = (gV τ 23 0 152) from (f73.1 23 0 (152) (by decide) (by decide)).trans (show gV τ51 23 0 152 = (gV τ 23 0 152) from (gV_putn eτ51 (Or.inr (Or.inr (by omega)))).trans (show gV τ31 23 0 152 = (gV τ 23 0 152) from (f33.1 23 0 (152) (by decide) (by decide)).trans rfl)))))))) ?_
                  refine m_iconst (v := 1) C dX12_takePerson_185 (by decide) ?_
                  refine m_iadd C dX12_takePerson_186 ?_
                  refine m_topi (fun x323 ex323 => ?_)
                  have tx323 : x323.toInt = (gV τ 23 0 152).toInt + 1 := by rw [ex323, ti_addv u3 kc_1 (by decide), kt_1]
                  have b324 : IV x323 1 8 := by rw [ex323]; exact iv_add u3 kc_1 (by decide)
                  refine as_23 C kc_152 (by decide) kn_152 dX12_takePerson_187 ?_
                  refine m_tops (fun τ325 eτ325 => ?_)
                  have i326 : Inv τ325 := eτ325 ▸ Inv.putR i318 (by decide) (iv_wk b324 (by decide))
                  have f327 : Fr MS_X12_takePersonE AS_X12_takePersonE σ τ325 := eτ325 ▸ Fr.put (f319) (Or.inr (by decide))
                  have v328 : CP (gV σ 23 0 152).toInt τ325 := v320.put eτ325 (Or.inr (fun q hq => by omega))
                  have v329 : TpM τ325 T N := v321.put eτ325 (Or.inl (by decide)) (by decide)
                  have v330 : CQ (gV σ 23 0 152).toInt.toNat τ325 := v322.put eτ325 (Or.inl (by decide)) (Or.inr (by omega))
                  refine m_aload_n C dX12_takePerson_188 rfl rfl ?_
                  have q331 : (gV τ325 22 0 6).toInt = (gV τ 22 0 6).toInt := congrArg Int32.toInt (show (gV τ325 22 0 6) = (gV τ 22 0 6) from (show gV τ325 22 0 6 = (gV τ 22 0 6) from gV_put eτ325 (show gV τ317 22 0 6 = (gV τ 22 0 6) from gV_put eτ317 (show gV τ309 22 0 6 = (gV τ 22 0 6) from gV_put eτ309 (show gV τ288 22 0 6 = (gV τ 22 0 6) from gV_put eτ288 (show gV τ272 22 0 6 = (gV τ 22 0 6) from (f274.1 22 0 (6) (by decide) (by decide)).trans (show gV τ249 22 0 6 = (gV τ 22 0 6) from gV_put eτ249 (show gV τ71 22 0 6 = (gV τ 22 0 6) from (f73.1 22 0 (6) (by decide) (by decide)).trans (show gV τ51 22 0 6 = (gV τ 22 0 6) from gV_put eτ51 (show gV τ31 22 0 6 = (gV τ 22 0 6) from (f33.1 22 0 (6) (by decide) (by decide)).trans rfl))))))))))
                  have q332 : (gV τ325 23 0 150).toInt = (gV τ 23 0 150).toInt := congrArg Int32.toInt (show (gV τ325 23 0 150) = (gV τ 23 0 150) from (show gV τ325 23 0 150 = (gV τ 23 0 150) from gV_put eτ325 (show gV τ317 23 0 150 = (gV τ 23 0 150) from (gV_putn eτ317 (Or.inr (Or.inr (by omega)))).trans (show gV τ309 23 0 150 = (gV τ 23 0 150) from (gV_putn eτ309 (Or.inr (Or.inr (by omega)))).trans (show gV τ288 23 0 150 = (gV τ 23 0 150) from (gV_putn eτ288 (Or.inr (Or.inr (by omega)))).trans (show gV τ272 23 0 150 = (gV τ 23 0 150) from (f274.1 23 0 (150) (by decide) (by decide)).trans (show gV τ249 23 0 150 = (gV τ 23 0 150) from (gV_putn eτ249 (Or.inr (Or.inr (by omega)))).trans (show gV τ71 23 0 150 = (gV τ 23 0 150) from (f73.1 23 0 (150) (by decide) (by decide)).trans (show gV τ51 23 0 150 = (gV τ 23 0 150) from (gV_putn eτ51 (Or.inr (Or.inr (by omega)))).trans (show gV τ31 23 0 150 = (gV τ 23 0 150) from (f33.1 23 0 (150) (by decide) (by decide)).trans rfl))))))))))
                  have q333 : (gV τ325 23 0 188).toInt = (gV τ 23 0 188).toInt := congrArg Int32.toInt (show (gV τ325 23 0 188) = (gV τ 23 0 188) from (show gV τ325 23 0 188 = (gV τ 23 0 188) from gV_put eτ325 (show gV τ317 23 0 188 = (gV τ 23 0 188) from (gV_putn eτ317 (Or.inr (Or.inr (by omega)))).trans (show gV τ309 23 0 188 = (gV τ 23 0 188) from (gV_putn eτ309 (Or.inr (Or.inr (by omega)))).trans (show gV τ288 23 0 188 = (gV τ 23 0 188) from (gV_putn eτ288 (Or.inr (Or.inr (by omega)))).trans (show gV τ272 23 0 188 = (gV τ 23 0 188) from (f274.1 23 0 (188) (by decide) (by decide)).trans (show gV τ249 23 0 188 = (gV τ 23 0 188) from (gV_putn eτ249 (Or.inr (Or.inr (by omega)))).trans (show gV τ71 23 0 188 = (gV τ 23 0 188) from (f73.1 23 0 (188) (by decide) (by decide)).trans (show gV τ51 23 0 188 = (gV τ 23 0 188) from (gV_putn eτ51 (Or.inr (Or.inr (by omega)))).trans (show gV τ31 23 0 188 = (gV τ 23 0 188) from (f33.1 23 0 (188) (by decide) (by decide)).trans rfl))))))))))
                  have q334 : (gV τ325 22 0 11).toInt = (gV τ272 22 0 11).toInt := congrArg Int32.toInt (show (gV τ325 22 0 11) = (gV τ272 22 0 11) from (show gV τ325 22 0 11 = (gV τ272 22 0 11) from gV_put eτ325 (show gV τ317 22 0 11 = (gV τ272 22 0 11) from gV_put eτ317 (show gV τ309 22 0 11 = (gV τ272 22 0 11) from gV_put eτ309 (show gV τ288 22 0 11 = (gV τ272 22 0 11) from gV_put eτ288 rfl)))))
                  have q335 : (gV τ325 22 0 12).toInt = (gV τ272 22 0 12).toInt := congrArg Int32.toInt (show (gV τ325 22 0 12) = (gV τ272 22 0 12) from (show gV τ325 22 0 12 = (gV τ272 22 0 12) from gV_put eτ325 (show gV τ317 22 0 12 = (gV τ272 22 0 12) from gV_put eτ317 (show gV τ309 22 0 12 = (gV τ272 22 0 12) from gV_put eτ309 (show gV τ288 22 0 12 = (gV τ272 22 0 12) from gV_put eτ288 rfl)))))
                  have q336 : (gV τ325 22 0 13).toInt = (gV τ272 22 0 13).toInt := congrArg Int32.toInt (show (gV τ325 22 0 13) = (gV τ272 22 0 13) from (show gV τ325 22 0 13 = (gV τ272 22 0 13) from gV_put eτ325 (show gV τ317 22 0 13 = (gV τ272 22 0 13) from gV_put eτ317 (show gV τ309 22 0 13 = (gV τ272 22 0 13) from gV_put eτ309 (show gV τ288 22 0 13 = (gV τ272 22 0 13) from gV_put eτ288 rfl)))))
                  have q337 : (gV τ325 22 0 15).toInt = (gV τ272 22 0 15).toInt := congrArg Int32.toInt (show (gV τ325 22 0 15) = (gV τ272 22 0 15) from (show gV τ325 22 0 15 = (gV τ272 22 0 15) from gV_put eτ325 (show gV τ317 22 0 15 = (gV τ272 22 0 15) from gV_put eτ317 (show gV τ309 22 0 15 = (gV τ272 22 0 15) from gV_put eτ309 (show gV τ288 22 0 15 = (gV τ272 22 0 15) from gV_put eτ288 rfl)))))
                  have q338 : (gV τ325 22 0 16).toInt = (gV τ272 22 0 16).toInt := congrArg Int32.toInt (show (gV τ325 22 0 16) = (gV τ272 22 0 16) from (show gV τ325 22 0 16 = (gV τ272 22 0 16) from gV_put eτ325 (show gV τ317 22 0 16 = (gV τ272 22 0 16) from gV_put eτ317 (show gV τ309 22 0 16 = (gV τ272 22 0 16) from gV_put eτ309 (show gV τ288 22 0 16 = (gV τ272 22 0 16) from gV_put eτ288 rfl)))))
                  have q339 : (gV τ325 23 0 152).toInt = x323.toInt := congrArg Int32.toInt (show (gV τ325 23 0 152) = x323 from (show gV τ325 23 0 152 = x323 from gV_put eτ325 (gV_self _ _ _ _ _)))
                  refine m_callV (n := 0) (ci := 11) (st := []) C (c_X12_takeSignE l G τ325 T N (tE T N (tE T N (tE T N (tE T N i))))  i326 v329 (by omega) (by omega)) (by decide) (by decide) rfl rfl rfl q5_15 q5_12 q5_14 q0_32 q1_7 (by decide +kernel) rfl (by decide) (by decide) rfl (Nat.le_of_ble_eq_true rfl) dX12_takePerson_189 ?_
                  rintro _ τ340 ⟨rfl, i341, f342, h346⟩
                  have g345 : Fr MS_X12_takePersonE AS_X12_takePersonE σ τ340 := Fr.call (f327) f342 (by decide)
                  have v347 : CP (gV σ 23 0 152).toInt τ340 := v328.call (fun k => f342.1 23 0 k (by simp) (by decide))
                  have v348 : TpM τ340 T N := v329.fr f342 (by decide) (by decide) (by simp) (by decide)
                  have u349 : IV (gV τ340 22 0 11) 0 400 := i341.1 22 0 11
                  have q350 : (gV τ340 22 0 6).toInt = (gV τ 22 0 6).toInt := congrArg Int32.toInt (show (gV τ340 22 0 6) = (gV τ 22 0 6) from (show gV τ340 22 0 6 = (gV τ 22 0 6) from (f342.1 22 0 (6) (by decide) (by decide)).trans (show gV τ325 22 0 6 = (gV τ 22 0 6) from gV_put eτ325 (show gV τ317 22 0 6 = (gV τ 22 0 6) from gV_put eτ317 (show gV τ309 22 0 6 = (gV τ 22 0 6) from gV_put eτ309 (show gV τ288 22 0 6 = (gV τ 22 0 6) from gV_put eτ288 (show gV τ272 22 0 6 = (gV τ 22 0 6) from (f274.1 22 0 (6) (by decide) (by decide)).trans (show gV τ249 22 0 6 = (gV τ 22 0 6) from gV_put eτ249 (show gV τ71 22 0 6 = (gV τ 22 0 6) from (f73.1 22 0 (6) (by decide) (by decide)).trans (show gV τ51 22 0 6 = (gV τ 22 0 6) from gV_put eτ51 (show gV τ31 22 0 6 = (gV τ 22 0 6) from (f33.1 22 0 (6) (by decide) (by decide)).trans rfl)))))))))))
                  have q351 : (gV τ340 23 0 150).toInt = (gV τ 23 0 150).toInt := congrArg Int32.toInt (show (gV τ340 23 0 150) = (gV τ 23 0 150) from (show gV τ340 23 0 150 = (gV τ 23 0 150) from (f342.1 23 0 (150) (by decide) (by decide)).trans (show gV τ325 23 0 150 = (gV τ 23 0 150) from gV_put eτ325 (show gV τ317 23 0 150 = (gV τ 23 0 150) from (gV_putn eτ317 (Or.inr (Or.inr (by omega)))).trans (show gV τ309 23 0 150 = (gV τ 23 0 150) from (gV_putn eτ309 (Or.inr (Or.inr (by omega)))).trans (show gV τ288 23 0 150 = (gV τ 23 0 150) from (gV_putn eτ288 (Or.inr (Or.inr (by omega)))).trans (show gV τ272 23 0 150 = (gV τ 23 0 150) from (f274.1 23 0 (150) (by decide) (by decide)).trans (show gV τ249 23 0 150 = (gV τ 23 0 150) from (gV_putn eτ249 (Or.inr (Or.inr (by omega)))).trans (show gV τ71 23 0 150 = (gV τ 23 0 150) from (f73.1 23 0 (150) (by decide) (by decide)).trans (show gV τ51 23 0 150 = (gV τ 23 0 150) from (gV_putn eτ51 (Or.inr (Or.inr (by omega)))).trans (show gV τ31 23 0 150 = (gV τ 23 0 150) from (f33.1 23 0 (150) (by decide) (by decide)).trans rfl)))))))))))
                  have q352 : (gV τ340 23 0 188).toInt = (gV τ 23 0 188).toInt := congrArg Int32.toInt (show (gV τ340 23 0 188) = (gV τ 23 0 188) from (show gV τ340 23 0 188 = (gV τ 23 0 188) from (f342.1 23 0 (188) (by decide) (by decide)).trans (show gV τ325 23 0 188 = (gV τ 23 0 188) from gV_put eτ325 (show gV τ317 23 0 188 = (gV τ 23 0 188) from (gV_putn eτ317 (Or.inr (Or.inr (by omega)))).trans (show gV τ309 23 0 188 = (gV τ 23 0 188) from (gV_putn eτ309 (Or.inr (Or.inr (by omega)))).trans (show gV τ288 23 0 188 = (gV τ 23 0 188) from (gV_putn eτ288 (Or.inr (Or.inr (by omega)))).trans (show gV τ272 23 0 188 = (gV τ 23 0 188) from (f274.1 23 0 (188) (by decide) (by decide)).trans (show gV τ249 23 0 188 = (gV τ 23 0 188) from (gV_putn eτ249 (Or.inr (Or.inr (by omega)))).trans (show gV τ71 23 0 188 = (gV τ 23 0 188) from (f73.1 23 0 (188) (by decide) (by decide)).trans (show gV τ51 23 0 188 = (gV τ 23 0 188) from (gV_putn eτ51 (Or.inr (Or.inr (by omega)))).trans (show gV τ31 23 0 188 = (gV τ 23 0 188) from (f33.1 23 0 (188) (by decide) (by decide)).trans rfl)))))))))))
                  have q353 : (gV τ340 23 0 152).toInt = x323.toInt := congrArg Int32.toInt (show (gV τ340 23 0 152) = x323 from (show gV τ340 23 0 152 = x323 from (f342.1 23 0 (152) (by decide) (by decide)).trans (show gV τ325 23 0 152 = x323 from gV_put eτ325 (gV_self _ _ _ _ _))))
                  rcases h346 with ⟨h346_0, h346_1, h346_2, h346_3⟩ | ⟨h346_0, h346_1, h346_2, h346_3, h346_4⟩ | ⟨h346_0, h346_1, h346_2, h346_3, h346_4, h346_5⟩
                  · skip
                    have v354 : CQ (gV σ 23 0 152).toInt.toNat τ340 := v330.call (fun q => by omega) (fun k => f342.1 23 0 k (by simp) (by decide))
                    show MW p l e _ s m args below meth c _ 4 G 0 0 192 [some (.ref (G.1 22 0)), some (.int y1), some (.int z0), some (.int 0)] [] τ340
                    exact m_vret C hr hlk (by decide) (by decide) dX12_takePerson_192 ⟨rfl, i341, g345, (by have qd := per_4 T N st cc i (by omega) (by omega) (by omega) (by omega) (by omega); exact Or.inl ⟨by omega, by omega, by omega, by omega, by omega, by omega⟩)⟩
                  · skip
                    exfalso; omega
                  · skip
                    exfalso; omega
                · first | exact absurd c307 (by decide) | exact absurd (by decide) c307
              · exfalso
                have q : _ := c303
                simp only [ti_nle, ti_nlt, ti_le, ti_lt, ti_eq, ti_ne, Classical.not_not, kt_0] at q
                have q1 := b287; have q2 := kc_0; omega
            · skip
              have b357 : IV x275 (-1) (-1) := ⟨by omega, by omega⟩
              have b358 : IV (gV τ272 22 0 16) 2 2 := ⟨by omega, by omega⟩
              show MW p l e _ s m args below meth c _ 4 G 0 0 110 [some (.ref (G.1 22 0)), some (.int y1), some (.int z0), none] [.int x275, .int x255, .ref (G.1 23 0)] τ272
              refine m_goto (tgt := 114) C dX12_takePerson_110 (by decide) ?_
              refine as_23 C b256 (by decide) rfl dX12_takePerson_114 ?_
              refine m_tops (fun τ359 eτ359 => ?_)
              have i360 : Inv τ359 := eτ359 ▸ Inv.putRo i273 (by omega)
              have f361 : Fr MS_X12_takePersonE AS_X12_takePersonE σ τ359 := eτ359 ▸ Fr.put (g277) (Or.inr (by decide))
              have v362 : CP (gV σ 23 0 152).toInt τ359 := v279.put eτ359 (Or.inr (fun q hq => by omega))
              have v363 : TpM τ359 T N := v280.put eτ359 (Or.inl (by decide)) (by decide)
              have q364 : (gV τ359 22 0 6).toInt = (gV τ 22 0 6).toInt := congrArg Int32.toInt (show (gV τ359 22 0 6) = (gV τ 22 0 6) from (show gV τ359 22 0 6 = (gV τ 22 0 6) from gV_put eτ359 (show gV τ272 22 0 6 = (gV τ 22 0 6) from (f274.1 22 0 (6) (by decide) (by decide)).trans (show gV τ249 22 0 6 = (gV τ 22 0 6) from gV_put eτ249 (show gV τ71 22 0 6 = (gV τ 22 0 6) from (f73.1 22 0 (6) (by decide) (by decide)).trans (show gV τ51 22 0 6 = (gV τ 22 0 6) from gV_put eτ51 (show gV τ31 22 0 6 = (gV τ 22 0 6) from (f33.1 22 0 (6) (by decide) (by decide)).trans rfl)))))))
              have q365 : (gV τ359 23 0 150).toInt = (gV τ 23 0 150).toInt := congrArg Int32.toInt (show (gV τ359 23 0 150) = (gV τ 23 0 150) from (show gV τ359 23 0 150 = (gV τ 23 0 150) from (gV_putn eτ359 (Or.inr (Or.inr (by omega)))).trans (show gV τ272 23 0 150 = (gV τ 23 0 150) from (f274.1 23 0 (150) (by decide) (by decide)).trans (show gV τ249 23 0 150 = (gV τ 23 0 150) from (gV_putn eτ249 (Or.inr (Or.inr (by omega)))).trans (show gV τ71 23 0 150 = (gV τ 23 0 150) from (f73.1 23 0 (150) (by decide) (by decide)).trans (show gV τ51 23 0 150 = (gV τ 23 0 150) from (gV_putn eτ51 (Or.inr (Or.inr (by omega)))).trans (show gV τ31 23 0 150 = (gV τ 23 0 150) from (f33.1 23 0 (150) (by decide) (by decide)).trans rfl)))))))
              have q366 : (gV τ359 23 0 152).toInt = (gV τ 23 0 152).toInt := congrArg Int32.toInt (show (gV τ359 23 0 152) = (gV τ 23 0 152) from (show gV τ359 23 0 152 = (gV τ 23 0 152) from (gV_putn eτ359 (Or.inr (Or.inr (by omega)))).trans (show gV τ272 23 0 152 = (gV τ 23 0 152) from (f274.1 23 0 (152) (by decide) (by decide)).trans (show gV τ249 23 0 152 = (gV τ 23 0 152) from (gV_putn eτ249 (Or.inr (Or.inr (by omega)))).trans (show gV τ71 23 0 152 = (gV τ 23 0 152) from (f73.1 23 0 (152) (by decide) (by decide)).trans (show gV τ51 23 0 152 = (gV τ 23 0 152) from (gV_putn eτ51 (Or.inr (Or.inr (by omega)))).trans (show gV τ31 23 0 152 = (gV τ 23 0 152) from (f33.1 23 0 (152) (by decide) (by decide)).trans rfl)))))))
              have q367 : (gV τ359 23 0 188).toInt = (gV τ 23 0 188).toInt := congrArg Int32.toInt (show (gV τ359 23 0 188) = (gV τ 23 0 188) from (show gV τ359 23 0 188 = (gV τ 23 0 188) from (gV_putn eτ359 (Or.inr (Or.inr (by omega)))).trans (show gV τ272 23 0 188 = (gV τ 23 0 188) from (f274.1 23 0 (188) (by decide) (by decide)).trans (show gV τ249 23 0 188 = (gV τ 23 0 188) from (gV_putn eτ249 (Or.inr (Or.inr (by omega)))).trans (show gV τ71 23 0 188 = (gV τ 23 0 188) from (f73.1 23 0 (188) (by decide) (by decide)).trans (show gV τ51 23 0 188 = (gV τ 23 0 188) from (gV_putn eτ51 (Or.inr (Or.inr (by omega)))).trans (show gV τ31 23 0 188 = (gV τ 23 0 188) from (f33.1 23 0 (188) (by decide) (by decide)).trans rfl)))))))
              have q368 : (gV τ359 22 0 11).toInt = (gV τ272 22 0 11).toInt := congrArg Int32.toInt (show (gV τ359 22 0 11) = (gV τ272 22 0 11) from (show gV τ359 22 0 11 = (gV τ272 22 0 11) from gV_put eτ359 rfl))
              have q369 : (gV τ359 22 0 12).toInt = (gV τ272 22 0 12).toInt := congrArg Int32.toInt (show (gV τ359 22 0 12) = (gV τ272 22 0 12) from (show gV τ359 22 0 12 = (gV τ272 22 0 12) from gV_put eτ359 rfl))
              have q370 : (gV τ359 22 0 13).toInt = (gV τ272 22 0 13).toInt := congrArg Int32.toInt (show (gV τ359 22 0 13) = (gV τ272 22 0 13) from (show gV τ359 22 0 13 = (gV τ272 22 0 13) from gV_put eτ359 rfl))
              have q371 : (gV τ359 22 0 15).toInt = (gV τ272 22 0 15).toInt := congrArg Int32.toInt (show (gV τ359 22 0 15) = (gV τ272 22 0 15) from (show gV τ359 22 0 15 = (gV τ272 22 0 15) from gV_put eτ359 rfl))
              have q372 : (gV τ359 22 0 16).toInt = (gV τ272 22 0 16).toInt := congrArg Int32.toInt (show (gV τ359 22 0 16) = (gV τ272 22 0 16) from (show gV τ359 22 0 16 = (gV τ272 22 0 16) from gV_put eτ359 rfl))
              have v373 : CQ (gV σ 23 0 152).toInt.toNat τ359 := by
                intro q
                have q1 : gV τ359 23 0 (x255.toInt.toNat) = x275 := (show gV τ359 23 0 (x255.toInt.toNat) = x275 from gV_put eτ359 (gV_self _ _ _ _ _))
                rw [show 167 + (gV σ 23 0 152).toInt.toNat = (x255.toInt.toNat) by omega, q1]
                omega
              refine m_aload_n C dX12_takePerson_115 rfl rfl ?_
              refine g_22_16 C q4_132 dX12_takePerson_116 ?_
              refine m_eqs (w := (gV τ272 22 0 16)) (show gV τ359 22 0 16 = (gV τ272 22 0 16) from gV_put eτ359 rfl) ?_
              refine m_if_ne (tgt := 142) C dX12_takePerson_119 (by decide) (fun c374 => ?_) (fun c374 => ?_)
              · have f375 : (gV τ272 22 0 16).toInt ≠ 0 := by
                  have q : _ := c374
                  simp only [ti_nle, ti_nlt, ti_le, ti_lt, ti_eq, ti_ne, Classical.not_not, kt_0] at q
                  omega
                refine m_iconst (v := 0) C dX12_takePerson_142 (by decide) ?_
                refine m_istore_n (L1 := [some (.ref (G.1 22 0)), some (.int y1), some (.int z0), some (.int 0)]) C dX12_takePerson_143 rfl (by decide) rfl rfl ?_
                refine m_aload_n C dX12_takePerson_144 rfl rfl ?_
                refine g_22_0 C q4_116 dX12_takePerson_145 ?_
                refine m_sipush (v := 174) C dX12_takePerson_148 (by decide) ?_
                refine m_iload_n C dX12_takePerson_151 rfl rfl ?_
                refine m_iadd C dX12_takePerson_152 ?_
                refine m_topi (fun x376 ex376 => ?_)
                have tx376 : x376.toInt = 174 + y1.toInt := by rw [ex376, ti_addv kc_174 b_y1 (by decide), kt_174]
                have b377 : IV x376 174 180 := by rw [ex376]; exact iv_add kc_174 b_y1 (by decide)
                refine m_iload_n C dX12_takePerson_153 rfl rfl ?_
                refine m_bipush (v := 99) C dX12_takePerson_154 (by decide) ?_
                refine m_icmp_ne (tgt := 163) C dX12_takePerson_156 (by decide) (fun c378 => ?_) (fun c378 => ?_)
                · have f379 : 0 ≠ 99 := by
                    have q : _ := c378
                    simp only [ti_nle, ti_nlt, ti_le, ti_lt, ti_eq, ti_ne, Classical.not_not, kt_0, kt_99] at q
                    omega
                  refine m_iload_n C dX12_takePerson_163 rfl rfl ?_
                  refine as_23 C b377 (by decide) rfl dX12_takePerson_164 ?_
                  refine m_tops (fun τ380 eτ380 => ?_)
                  have i381 : Inv τ380 := eτ380 ▸ Inv.putR0 i360 (by omega) kt_0
                  have f382 : Fr MS_X12_takePersonE AS_X12_takePersonE σ τ380 := eτ380 ▸ Fr.put (f361) (Or.inr (by decide))
                  have v383 : CP (gV σ 23 0 152).toInt τ380 := v362.put eτ380 (Or.inr (fun q hq => by omega))
                  have v384 : TpM τ380 T N := v363.put eτ380 (Or.inl (by decide)) (by decide)
                  have v385 : CQ (gV σ 23 0 152).toInt.toNat τ380 := v373.put eτ380 (Or.inl (by decide)) (Or.inr (by omega))
                  refine m_aload_n C dX12_takePerson_165 rfl rfl ?_
                  refine g_22_0 C q4_116 dX12_takePerson_166 ?_
                  refine m_sipush (v := 181) C dX12_takePerson_169 (by decide) ?_
                  refine m_iload_n C dX12_takePerson_172 rfl rfl ?_
                  refine m_iadd C dX12_takePerson_173 ?_
                  refine m_topi (fun x386 ex386 => ?_)
                  have tx386 : x386.toInt = 181 + y1.toInt := by rw [ex386, ti_addv kc_181 b_y1 (by decide), kt_181]
                  have b387 : IV x386 181 187 := by rw [ex386]; exact iv_add kc_181 b_y1 (by decide)
                  refine m_iconst (v := 0) C dX12_takePerson_174 (by decide) ?_
                  refine as_23 C b387 (by decide) rfl dX12_takePerson_175 ?_
                  refine m_tops (fun τ388 eτ388 => ?_)
                  have i389 : Inv τ388 := eτ388 ▸ Inv.putR0 i381 (by omega) kt_0
                  have f390 : Fr MS_X12_takePersonE AS_X12_takePersonE σ τ388 := eτ388 ▸ Fr.put (f382) (Or.inr (by decide))
                  have v391 : CP (gV σ 23 0 152).toInt τ388 := v383.put eτ388 (Or.inr (fun q hq => by omega))
                  have v392 : TpM τ388 T N := v384.put eτ388 (Or.inl (by decide)) (by decide)
                  have v393 : CQ (gV σ 23 0 152).toInt.toNat τ388 := v385.put eτ388 (Or.inl (by decide)) (Or.inr (by omega))
                  refine m_aload_n C dX12_takePerson_176 rfl rfl ?_
                  refine g_22_0 C q4_116 dX12_takePerson_177 ?_
                  refine m_sipush (v := 152) C dX12_takePerson_180 (by decide) ?_
                  refine m_dup2 C dX12_takePerson_183 rfl rfl ?_
                  refine al_23 C kc_152 (by decide) kn_152 dX12_takePerson_184 ?_
                  refine m_eqs (w := (gV τ 23 0 152)) (show gV τ388 23 0 152 = (gV τ 23 0 152) from (gV_putn eτ388 (Or.inr (Or.inr (by omega)))).trans (show gV τ380 23 0 152 = (gV τ 23 0 152) from (gV_putn eτ380 (Or.inr (Or.inr (by omega)))).trans (show gV τ359 23 0 152 = (gV τ 23 0 152) from (gV_putn eτ359 (Or.inr (Or.inr (by omega)))).trans (show gV τ272 23 0 152 = (gV τ 23 0 152) from (f274.1 23 0 (152) (by decide) (by decide)).trans (show gV τ249 23 0 152 = (gV τ 23 0 152) from (gV_putn eτ249 (Or.inr (Or.inr (by omega)))).trans (show gV τ71 23 0 152 = (gV τ 23 0 152) from (f73.1 23 0 (152) (by decide) (by decide)).trans (show gV τ51 23 0 152 = (gV τ 23 0 152) from (gV_putn eτ51 (Or.inr (Or.inr (by omega)))).trans (show gV τ31 23 0 152 = (gV τ 23 0 152) from (f33.1 23 0 (152) (by decide) (by decide)).trans rfl)))))))) ?_
                  refine m_iconst (v := 1) C dX12_takePerson_185 (by decide) ?_
                  refine m_iadd C dX12_takePerson_186 ?_
                  refine m_topi (fun x394 ex394 => ?_)
                  have tx394 : x394.toInt = (gV τ 23 0 152).toInt + 1 := by rw [ex394, ti_addv u3 kc_1 (by decide), kt_1]
                  have b395 : IV x394 1 8 := by rw [ex394]; exact iv_add u3 kc_1 (by decide)
                  refine as_23 C kc_152 (by decide) kn_152 dX12_takePerson_187 ?_
                  refine m_tops (fun τ396 eτ396 => ?_)
                  have i397 : Inv τ396 := eτ396 ▸ Inv.putR i389 (by decide) (iv_wk b395 (by decide))
                  have f398 : Fr MS_X12_takePersonE AS_X12_takePersonE σ τ396 := eτ396 ▸ Fr.put (f390) (Or.inr (by decide))
                  have v399 : CP (gV σ 23 0 152).toInt τ396 := v391.put eτ396 (Or.inr (fun q hq => by omega))
                  have v400 : TpM τ396 T N := v392.put eτ396 (Or.inl (by decide)) (by decide)
                  have v401 : CQ (gV σ 23 0 152).toInt.toNat τ396 := v393.put eτ396 (Or.inl (by decide)) (Or.inr (by omega))
                  refine m_aload_n C dX12_takePerson_188 rfl rfl ?_
                  have q402 : (gV τ396 22 0 6).toInt = (gV τ 22 0 6).toInt := congrArg Int32.toInt (show (gV τ396 22 0 6) = (gV τ 22 0 6) from (show gV τ396 22 0 6 = (gV τ 22 0 6) from gV_put eτ396 (show gV τ388 22 0 6 = (gV τ 22 0 6) from gV_put eτ388 (show gV τ380 22 0 6 = (gV τ 22 0 6) from gV_put eτ380 (show gV τ359 22 0 6 = (gV τ 22 0 6) from gV_put eτ359 (show gV τ272 22 0 6 = (gV τ 22 0 6) from (f274.1 22 0 (6) (by decide) (by decide)).trans (show gV τ249 22 0 6 = (gV τ 22 0 6) from gV_put eτ249 (show gV τ71 22 0 6 = (gV τ 22 0 6) from (f73.1 22 0 (6) (by decide) (by decide)).trans (show gV τ51 22 0 6 = (gV τ 22 0 6) from gV_put eτ51 (show gV τ31 22 0 6 = (gV τ 22 0 6) from (f33.1 22 0 (6) (by decide) (by decide)).trans rfl))))))))))
                  have q403 : (gV τ396 23 0 150).toInt = (gV τ 23 0 150).toInt := congrArg Int32.toInt (show (gV τ396 23 0 150) = (gV τ 23 0 150) from (show gV τ396 23 0 150 = (gV τ 23 0 150) from gV_put eτ396 (show gV τ388 23 0 150 = (gV τ 23 0 150) from (gV_putn eτ388 (Or.inr (Or.inr (by omega)))).trans (show gV τ380 23 0 150 = (gV τ 23 0 150) from (gV_putn eτ380 (Or.inr (Or.inr (by omega)))).trans (show gV τ359 23 0 150 = (gV τ 23 0 150) from (gV_putn eτ359 (Or.inr (Or.inr (by omega)))).trans (show gV τ272 23 0 150 = (gV τ 23 0 150) from (f274.1 23 0 (150) (by decide) (by decide)).trans (show gV τ249 23 0 150 = (gV τ 23 0 150) from (gV_putn eτ249 (Or.inr (Or.inr (by omega)))).trans (show gV τ71 23 0 150 = (gV τ 23 0 150) from (f73.1 23 0 (150) (by decide) (by decide)).trans (show gV τ51 23 0 150 = (gV τ 23 0 150) from (gV_putn eτ51 (Or.inr (Or.inr (by omega)))).trans (show gV τ31 23 0 150 = (gV τ 23 0 150) from (f33.1 23 0 (150) (by decide) (by decide)).trans rfl))))))))))
                  have q404 : (gV τ396 23 0 188).toInt = (gV τ 23 0 188).toInt := congrArg Int32.toInt (show (gV τ396 23 0 188) = (gV τ 23 0 188) from (show gV τ396 23 0 188 = (gV τ 23 0 188) from gV_put eτ396 (show gV τ388 23 0 188 = (gV τ 23 0 188) from (gV_putn eτ388 (Or.inr (Or.inr (by omega)))).trans (show gV τ380 23 0 188 = (gV τ 23 0 188) from (gV_putn eτ380 (Or.inr (Or.inr (by omega)))).trans (show gV τ359 23 0 188 = (gV τ 23 0 188) from (gV_putn eτ359 (Or.inr (Or.inr (by omega)))).trans (show gV τ272 23 0 188 = (gV τ 23 0 188) from (f274.1 23 0 (188) (by decide) (by decide)).trans (show gV τ249 23 0 188 = (gV τ 23 0 188) from (gV_putn eτ249 (Or.inr (Or.inr (by omega)))).trans (show gV τ71 23 0 188 = (gV τ 23 0 188) from (f73.1 23 0 (188) (by decide) (by decide)).trans (show gV τ51 23 0 188 = (gV τ 23 0 188) from (gV_putn eτ51 (Or.inr (Or.inr (by omega)))).trans (show gV τ31 23 0 188 = (gV τ 23 0 188) from (f33.1 23 0 (188) (by decide) (by decide)).trans rfl))))))))))
                  have q405 : (gV τ396 22 0 11).toInt = (gV τ272 22 0 11).toInt := congrArg Int32.toInt (show (gV τ396 22 0 11) = (gV τ272 22 0 11) from (show gV τ396 22 0 11 = (gV τ272 22 0 11) from gV_put eτ396 (show gV τ388 22 0 11 = (gV τ272 22 0 11) from gV_put eτ388 (show gV τ380 22 0 11 = (gV τ272 22 0 11) from gV_put eτ380 (show gV τ359 22 0 11 = (gV τ272 22 0 11) from gV_put eτ359 rfl)))))
                  have q406 : (gV τ396 22 0 12).toInt = (gV τ272 22 0 12).toInt := congrArg Int32.toInt (show (gV τ396 22 0 12) = (gV τ272 22 0 12) from (show gV τ396 22 0 12 = (gV τ272 22 0 12) from gV_put eτ396 (show gV τ388 22 0 12 = (gV τ272 22 0 12) from gV_put eτ388 (show gV τ380 22 0 12 = (gV τ272 22 0 12) from gV_put eτ380 (show gV τ359 22 0 12 = (gV τ272 22 0 12) from gV_put eτ359 rfl)))))
                  have q407 : (gV τ396 22 0 13).toInt = (gV τ272 22 0 13).toInt := congrArg Int32.toInt (show (gV τ396 22 0 13) = (gV τ272 22 0 13) from (show gV τ396 22 0 13 = (gV τ272 22 0 13) from gV_put eτ396 (show gV τ388 22 0 13 = (gV τ272 22 0 13) from gV_put eτ388 (show gV τ380 22 0 13 = (gV τ272 22 0 13) from gV_put eτ380 (show gV τ359 22 0 13 = (gV τ272 22 0 13) from gV_put eτ359 rfl)))))
                  have q408 : (gV τ396 22 0 15).toInt = (gV τ272 22 0 15).toInt := congrArg Int32.toInt (show (gV τ396 22 0 15) = (gV τ272 22 0 15) from (show gV τ396 22 0 15 = (gV τ272 22 0 15) from gV_put eτ396 (show gV τ388 22 0 15 = (gV τ272 22 0 15) from gV_put eτ388 (show gV τ380 22 0 15 = (gV τ272 22 0 15) from gV_put eτ380 (show gV τ359 22 0 15 = (gV τ272 22 0 15) from gV_put eτ359 rfl)))))
                  have q409 : (gV τ396 22 0 16).toInt = (gV τ272 22 0 16).toInt := congrArg Int32.toInt (show (gV τ396 22 0 16) = (gV τ272 22 0 16) from (show gV τ396 22 0 16 = (gV τ272 22 0 16) from gV_put eτ396 (show gV τ388 22 0 16 = (gV τ272 22 0 16) from gV_put eτ388 (show gV τ380 22 0 16 = (gV τ272 22 0 16) from gV_put eτ380 (show gV τ359 22 0 16 = (gV τ272 22 0 16) from gV_put eτ359 rfl)))))
                  have q410 : (gV τ396 23 0 152).toInt = x394.toInt := congrArg Int32.toInt (show (gV τ396 23 0 152) = x394 from (show gV τ396 23 0 152 = x394 from gV_put eτ396 (gV_self _ _ _ _ _)))
                  refine m_callV (n := 0) (ci := 11) (st := []) C (c_X12_takeSignE l G τ396 T N (tE T N (tE T N (tE T N (tE T N i))))  i397 v400 (by omega) (by omega)) (by decide) (by decide) rfl rfl rfl q5_15 q5_12 q5_14 q0_32 q1_7 (by decide +kernel) rfl (by decide) (by decide) rfl (Nat.le_of_ble_eq_true rfl) dX12_takePerson_189 ?_
                  rintro _ τ411 ⟨rfl, i412, f413, h417⟩
                  have g416 : Fr MS_X12_takePersonE AS_X12_takePersonE σ τ411 := Fr.call (f398) f413 (by decide)
                  have v418 : CP (gV σ 23 0 152).toInt τ411 := v399.call (fun k => f413.1 23 0 k (by simp) (by decide))
                  have v419 : TpM τ411 T N := v400.fr f413 (by decide) (by decide) (by simp) (by decide)
                  have u420 : IV (gV τ411 22 0 11) 0 400 := i412.1 22 0 11
                  have q421 : (gV τ411 22 0 6).toInt = (gV τ 22 0 6).toInt := congrArg Int32.toInt (show (gV τ411 22 0 6) = (gV τ 22 0 6) from (show gV τ411 22 0 6 = (gV τ 22 0 6) from (f413.1 22 0 (6) (by decide) (by decide)).trans (show gV τ396 22 0 6 = (gV τ 22 0 6) from gV_put eτ396 (show gV τ388 22 0 6 = (gV τ 22 0 6) from gV_put eτ388 (show gV τ380 22 0 6 = (gV τ 22 0 6) from gV_put eτ380 (show gV τ359 22 0 6 = (gV τ 22 0 6) from gV_put eτ359 (show gV τ272 22 0 6 = (gV τ 22 0 6) from (f274.1 22 0 (6) (by decide) (by decide)).trans (show gV τ249 22 0 6 = (gV τ 22 0 6) from gV_put eτ249 (show gV τ71 22 0 6 = (gV τ 22 0 6) from (f73.1 22 0 (6) (by decide) (by decide)).trans (show gV τ51 22 0 6 = (gV τ 22 0 6) from gV_put eτ51 (show gV τ31 22 0 6 = (gV τ 22 0 6) from (f33.1 22 0 (6) (by decide) (by decide)).trans rfl)))))))))))
                  have q422 : (gV τ411 23 0 150).toInt = (gV τ 23 0 150).toInt := congrArg Int32.toInt (show (gV τ411 23 0 150) = (gV τ 23 0 150) from (show gV τ411 23 0 150 = (gV τ 23 0 150) from (f413.1 23 0 (150) (by decide) (by decide)).trans (show gV τ396 23 0 150 = (gV τ 23 0 150) from gV_put eτ396 (show gV τ388 23 0 150 = (gV τ 23 0 150) from (gV_putn eτ388 (Or.inr (Or.inr (by omega)))).trans (show gV τ380 23 0 150 = (gV τ 23 0 150) from (gV_putn eτ380 (Or.inr (Or.inr (by omega)))).trans (show gV τ359 23 0 150 = (gV τ 23 0 150) from (gV_putn eτ359 (Or.inr (Or.inr (by omega)))).trans (show gV τ272 23 0 150 = (gV τ 23 0 150) from (f274.1 23 0 (150) (by decide) (by decide)).trans (show gV τ249 23 0 150 = (gV τ 23 0 150) from (gV_putn eτ249 (Or.inr (Or.inr (by omega)))).trans (show gV τ71 23 0 150 = (gV τ 23 0 150) from (f73.1 23 0 (150) (by decide) (by decide)).trans (show gV τ51 23 0 150 = (gV τ 23 0 150) from (gV_putn eτ51 (Or.inr (Or.inr (by omega)))).trans (show gV τ31 23 0 150 = (gV τ 23 0 150) from (f33.1 23 0 (150) (by decide) (by decide)).trans rfl)))))))))))
                  have q423 : (gV τ411 23 0 188).toInt = (gV τ 23 0 188).toInt := congrArg Int32.toInt (show (gV τ411 23 0 188) = (gV τ 23 0 188) from (show gV τ411 23 0 188 = (gV τ 23 0 188) from (f413.1 23 0 (188) (by decide) (by decide)).trans (show gV τ396 23 0 188 = (gV τ 23 0 188) from gV_put eτ396 (show gV τ388 23 0 188 = (gV τ 23 0 188) from (gV_putn eτ388 (Or.inr (Or.inr (by omega)))).trans (show gV τ380 23 0 188 = (gV τ 23 0 188) from (gV_putn eτ380 (Or.inr (Or.inr (by omega)))).trans (show gV τ359 23 0 188 = (gV τ 23 0 188) from (gV_putn eτ359 (Or.inr (Or.inr (by omega)))).trans (show gV τ272 23 0 188 = (gV τ 23 0 188) from (f274.1 23 0 (188) (by decide) (by decide)).trans (show gV τ249 23 0 188 = (gV τ 23 0 188) from (gV_putn eτ249 (Or.inr (Or.inr (by omega)))).trans (show gV τ71 23 0 188 = (gV τ 23 0 188) from (f73.1 23 0 (188) (by decide) (by decide)).trans (show gV τ51 23 0 188 = (gV τ 23 0 188) from (gV_putn eτ51 (Or.inr (Or.inr (by omega)))).trans (show gV τ31 23 0 188 = (gV τ 23 0 188) from (f33.1 23 0 (188) (by decide) (by decide)).trans rfl)))))))))))
                  have q424 : (gV τ411 23 0 152).toInt = x394.toInt := congrArg Int32.toInt (show (gV τ411 23 0 152) = x394 from (show gV τ411 23 0 152 = x394 from (f413.1 23 0 (152) (by decide) (by decide)).trans (show gV τ396 23 0 152 = x394 from gV_put eτ396 (gV_self _ _ _ _ _))))
                  rcases h417 with ⟨h417_0, h417_1, h417_2, h417_3⟩ | ⟨h417_0, h417_1, h417_2, h417_3, h417_4⟩ | ⟨h417_0, h417_1, h417_2, h417_3, h417_4, h417_5⟩
                  · skip
                    have v425 : CQ (gV σ 23 0 152).toInt.toNat τ411 := v401.call (fun q => by omega) (fun k => f413.1 23 0 k (by simp) (by decide))
                    show MW p l e _ s m args below meth c _ 4 G 0 0 192 [some (.ref (G.1 22 0)), some (.int y1), some (.int z0), some (.int 0)] [] τ411
                    exact m_vret C hr hlk (by decide) (by decide) dX12_takePerson_192 ⟨rfl, i412, g416, (by have qd := per_5 T N st cc i (by omega) (by omega) (by omega) (by omega) (by omega) (by omega); exact Or.inl ⟨by omega, by omega, by omega, by omega, by omega, by omega⟩)⟩
                  · skip
                    exfalso; omega
                  · skip
                    exfalso; omega
                · first | exact absurd c378 (by decide) | exact absurd (by decide) c378
              · exfalso
                have q : _ := c374
                simp only [ti_nle, ti_nlt, ti_le, ti_lt, ti_eq, ti_ne, Classical.not_not, kt_0] at q
                have q1 := b358; have q2 := kc_0; omega
            · skip
              have q428 : 1 ≤ tV T (tE T N (tE T N (tE T N i))) ∧ tV T (tE T N (tE T N (tE T N i))) ≤ 4 := by omega
              clear h278_1
              have b429 : IV (gV τ272 22 0 16) 0 0 := ⟨by omega, by omega⟩
              show MW p l e _ s m args below meth c _ 4 G 0 0 110 [some (.ref (G.1 22 0)), some (.int y1), some (.int z0), none] [.int x275, .int x255, .ref (G.1 23 0)] τ272
              refine m_goto (tgt := 114) C dX12_takePerson_110 (by decide) ?_
              refine as_23 C b256 (by decide) rfl dX12_takePerson_114 ?_
              refine m_tops (fun τ430 eτ430 => ?_)
              have i431 : Inv τ430 := eτ430 ▸ Inv.putRo i273 (by omega)
              have f432 : Fr MS_X12_takePersonE AS_X12_takePersonE σ τ430 := eτ430 ▸ Fr.put (g277) (Or.inr (by decide))
              have v433 : CP (gV σ 23 0 152).toInt τ430 := v279.put eτ430 (Or.inr (fun q hq => by omega))
              have v434 : TpM τ430 T N := v280.put eτ430 (Or.inl (by decide)) (by decide)
              have v435 : LW T N (tE T N (tE T N (tE T N (tE T N i)))) τ430.2.2.1 := by rw [eτ430]; exact h278_6
              have q436 : (gV τ430 22 0 6).toInt = (gV τ 22 0 6).toInt := congrArg Int32.toInt (show (gV τ430 22 0 6) = (gV τ 22 0 6) from (show gV τ430 22 0 6 = (gV τ 22 0 6) from gV_put eτ430 (show gV τ272 22 0 6 = (gV τ 22 0 6) from (f274.1 22 0 (6) (by decide) (by decide)).trans (show gV τ249 22 0 6 = (gV τ 22 0 6) from gV_put eτ249 (show gV τ71 22 0 6 = (gV τ 22 0 6) from (f73.1 22 0 (6) (by decide) (by decide)).trans (show gV τ51 22 0 6 = (gV τ 22 0 6) from gV_put eτ51 (show gV τ31 22 0 6 = (gV τ 22 0 6) from (f33.1 22 0 (6) (by decide) (by decide)).trans rfl)))))))
              have q437 : (gV τ430 23 0 150).toInt = (gV τ 23 0 150).toInt := congrArg Int32.toInt (show (gV τ430 23 0 150) = (gV τ 23 0 150) from (show gV τ430 23 0 150 = (gV τ 23 0 150) from (gV_putn eτ430 (Or.inr (Or.inr (by omega)))).trans (show gV τ272 23 0 150 = (gV τ 23 0 150) from (f274.1 23 0 (150) (by decide) (by decide)).trans (show gV τ249 23 0 150 = (gV τ 23 0 150) from (gV_putn eτ249 (Or.inr (Or.inr (by omega)))).trans (show gV τ71 23 0 150 = (gV τ 23 0 150) from (f73.1 23 0 (150) (by decide) (by decide)).trans (show gV τ51 23 0 150 = (gV τ 23 0 150) from (gV_putn eτ51 (Or.inr (Or.inr (by omega)))).trans (show gV τ31 23 0 150 = (gV τ 23 0 150) from (f33.1 23 0 (150) (by decide) (by decide)).trans rfl)))))))
              have q438 : (gV τ430 23 0 152).toInt = (gV τ 23 0 152).toInt := congrArg Int32.toInt (show (gV τ430 23 0 152) = (gV τ 23 0 152) from (show gV τ430 23 0 152 = (gV τ 23 0 152) from (gV_putn eτ430 (Or.inr (Or.inr (by omega)))).trans (show gV τ272 23 0 152 = (gV τ 23 0 152) from (f274.1 23 0 (152) (by decide) (by decide)).trans (show gV τ249 23 0 152 = (gV τ 23 0 152) from (gV_putn eτ249 (Or.inr (Or.inr (by omega)))).trans (show gV τ71 23 0 152 = (gV τ 23 0 152) from (f73.1 23 0 (152) (by decide) (by decide)).trans (show gV τ51 23 0 152 = (gV τ 23 0 152) from (gV_putn eτ51 (Or.inr (Or.inr (by omega)))).trans (show gV τ31 23 0 152 = (gV τ 23 0 152) from (f33.1 23 0 (152) (by decide) (by decide)).trans rfl)))))))
              have q439 : (gV τ430 23 0 188).toInt = (gV τ 23 0 188).toInt := congrArg Int32.toInt (show (gV τ430 23 0 188) = (gV τ 23 0 188) from (show gV τ430 23 0 188 = (gV τ 23 0 188) from (gV_putn eτ430 (Or.inr (Or.inr (by omega)))).trans (show gV τ272 23 0 188 = (gV τ 23 0 188) from (f274.1 23 0 (188) (by decide) (by decide)).trans (show gV τ249 23 0 188 = (gV τ 23 0 188) from (gV_putn eτ249 (Or.inr (Or.inr (by omega)))).trans (show gV τ71 23 0 188 = (gV τ 23 0 188) from (f73.1 23 0 (188) (by decide) (by decide)).trans (show gV τ51 23 0 188 = (gV τ 23 0 188) from (gV_putn eτ51 (Or.inr (Or.inr (by omega)))).trans (show gV τ31 23 0 188 = (gV τ 23 0 188) from (f33.1 23 0 (188) (by decide) (by decide)).trans rfl)))))))
              have q440 : (gV τ430 22 0 11).toInt = (gV τ272 22 0 11).toInt := congrArg Int32.toInt (show (gV τ430 22 0 11) = (gV τ272 22 0 11) from (show gV τ430 22 0 11 = (gV τ272 22 0 11) from gV_put eτ430 rfl))
              have q441 : (gV τ430 22 0 12).toInt = (gV τ272 22 0 12).toInt := congrArg Int32.toInt (show (gV τ430 22 0 12) = (gV τ272 22 0 12) from (show gV τ430 22 0 12 = (gV τ272 22 0 12) from gV_put eτ430 rfl))
              have q442 : (gV τ430 22 0 13).toInt = (gV τ272 22 0 13).toInt := congrArg Int32.toInt (show (gV τ430 22 0 13) = (gV τ272 22 0 13) from (show gV τ430 22 0 13 = (gV τ272 22 0 13) from gV_put eτ430 rfl))
              have q443 : (gV τ430 22 0 15).toInt = (gV τ272 22 0 15).toInt := congrArg Int32.toInt (show (gV τ430 22 0 15) = (gV τ272 22 0 15) from (show gV τ430 22 0 15 = (gV τ272 22 0 15) from gV_put eτ430 rfl))
              have q444 : (gV τ430 22 0 16).toInt = (gV τ272 22 0 16).toInt := congrArg Int32.toInt (show (gV τ430 22 0 16) = (gV τ272 22 0 16) from (show gV τ430 22 0 16 = (gV τ272 22 0 16) from gV_put eτ430 rfl))
              have v445 : CQ (gV σ 23 0 152).toInt.toNat τ430 := by
                intro q
                have q1 : gV τ430 23 0 (x255.toInt.toNat) = x275 := (show gV τ430 23 0 (x255.toInt.toNat) = x275 from gV_put eτ430 (gV_self _ _ _ _ _))
                rw [show 167 + (gV σ 23 0 152).toInt.toNat = (x255.toInt.toNat) by omega, q1]
                omega
              refine m_aload_n C dX12_takePerson_115 rfl rfl ?_
              refine g_22_16 C q4_132 dX12_takePerson_116 ?_
              refine m_eqs (w := (gV τ272 22 0 16)) (show gV τ430 22 0 16 = (gV τ272 22 0 16) from gV_put eτ430 rfl) ?_
              refine m_if_ne (tgt := 142) C dX12_takePerson_119 (by decide) (fun c446 => ?_) (fun c446 => ?_)
              · exfalso
                have q : _ := c446
                simp only [ti_nle, ti_nlt, ti_le, ti_lt, ti_eq, ti_ne, Classical.not_not, kt_0] at q
                have q1 := b429; have q2 := kc_0; omega
              · have f448 : (gV τ272 22 0 16).toInt = 0 := by
                  have q : _ := c446
                  simp only [ti_nle, ti_nlt, ti_le, ti_lt, ti_eq, ti_ne, Classical.not_not, kt_0] at q
                  omega
                refine m_aload_n C dX12_takePerson_122 rfl rfl ?_
                refine m_iconst (v := 0) C dX12_takePerson_123 (by decide) ?_
                refine m_aload_n C dX12_takePerson_124 rfl rfl ?_
                refine g_22_0 C q4_116 dX12_takePerson_125 ?_
                refine m_sipush (v := 150) C dX12_takePerson_128 (by decide) ?_
                refine al_23 C kc_150 (by decide) kn_150 dX12_takePerson_131 ?_
                refine m_eqs (w := (gV τ 23 0 150)) (show gV τ430 23 0 150 = (gV τ 23 0 150) from (gV_putn eτ430 (Or.inr (Or.inr (by omega)))).trans (show gV τ272 23 0 150 = (gV τ 23 0 150) from (f274.1 23 0 (150) (by decide) (by decide)).trans (show gV τ249 23 0 150 = (gV τ 23 0 150) from (gV_putn eτ249 (Or.inr (Or.inr (by omega)))).trans (show gV τ71 23 0 150 = (gV τ 23 0 150) from (f73.1 23 0 (150) (by decide) (by decide)).trans (show gV τ51 23 0 150 = (gV τ 23 0 150) from (gV_putn eτ51 (Or.inr (Or.inr (by omega)))).trans (show gV τ31 23 0 150 = (gV τ 23 0 150) from (f33.1 23 0 (150) (by decide) (by decide)).trans rfl)))))) ?_
                have b449 : IV (gV τ 23 0 150) 4 32 := ⟨by have q1 := (iv_any (gV τ 23 0 150)); omega, by have q1 := (iv_any (gV τ 23 0 150)); omega⟩
                refine m_iconst (v := 1) C dX12_takePerson_132 (by decide) ?_
                refine m_isub C dX12_takePerson_133 ?_
                refine m_topi (fun x450 ex450 => ?_)
                have tx450 : x450.toInt = (gV τ 23 0 150).toInt - 1 := by rw [ex450, ti_subv b449 kc_1 (by decide), kt_1]
                have b451 : IV x450 3 31 := by rw [ex450]; exact iv_sub b449 kc_1 (by decide)
                refine m_bipush (v := 99) C dX12_takePerson_134 (by decide) ?_
                have q452 := kt_0
                have q453 := kt_99
                refine m_callV (n := 3) (ci := 11) (st := []) C (c_X12_takeNumberE l G τ430 T N (tE T N (tE T N (tE T N (tE T N i)))) (0) (x450) (99) i431 v434 (by omega) (by omega)) (by decide) (by decide) rfl rfl rfl q5_7 q5_4 q5_6 q0_30 q1_7 (by decide +kernel) rfl (by decide) (by decide) rfl (Nat.le_of_ble_eq_true rfl) dX12_takePerson_136 ?_
                rintro _ τ454 ⟨x457, rfl, i455, f456, b458, h460⟩
                have g459 : Fr MS_X12_takePersonE AS_X12_takePersonE σ τ454 := Fr.call (f432) f456 (by decide)
                clear h278_4
                have v461 : CP (gV σ 23 0 152).toInt τ454 := v433.call (fun k => f456.1 23 0 k (by simp) (by decide))
                have v462 : TpM τ454 T N := v434.fr f456 (by decide) (by decide) (by simp) (by decide)
                have u463 : IV (gV τ454 22 0 11) 0 400 := i455.1 22 0 11
                have q464 : (gV τ454 22 0 6).toInt = (gV τ 22 0 6).toInt := congrArg Int32.toInt (show (gV τ454 22 0 6) = (gV τ 22 0 6) from (show gV τ454 22 0 6 = (gV τ 22 0 6) from (f456.1 22 0 (6) (by decide) (by decide)).trans (show gV τ430 22 0 6 = (gV τ 22 0 6) from gV_put eτ430 (show gV τ272 22 0 6 = (gV τ 22 0 6) from (f274.1 22 0 (6) (by decide) (by decide)).trans (show gV τ249 22 0 6 = (gV τ 22 0 6) from gV_put eτ249 (show gV τ71 22 0 6 = (gV τ 22 0 6) from (f73.1 22 0 (6) (by decide) (by decide)).trans (show gV τ51 22 0 6 = (gV τ 22 0 6) from gV_put eτ51 (show gV τ31 22 0 6 = (gV τ 22 0 6) from (f33.1 22 0 (6) (by decide) (by decide)).trans rfl))))))))
                have q465 : (gV τ454 23 0 150).toInt = (gV τ 23 0 150).toInt := congrArg Int32.toInt (show (gV τ454 23 0 150) = (gV τ 23 0 150) from (show gV τ454 23 0 150 = (gV τ 23 0 150) from (f456.1 23 0 (150) (by decide) (by decide)).trans (show gV τ430 23 0 150 = (gV τ 23 0 150) from (gV_putn eτ430 (Or.inr (Or.inr (by omega)))).trans (show gV τ272 23 0 150 = (gV τ 23 0 150) from (f274.1 23 0 (150) (by decide) (by decide)).trans (show gV τ249 23 0 150 = (gV τ 23 0 150) from (gV_putn eτ249 (Or.inr (Or.inr (by omega)))).trans (show gV τ71 23 0 150 = (gV τ 23 0 150) from (f73.1 23 0 (150) (by decide) (by decide)).trans (show gV τ51 23 0 150 = (gV τ 23 0 150) from (gV_putn eτ51 (Or.inr (Or.inr (by omega)))).trans (show gV τ31 23 0 150 = (gV τ 23 0 150) from (f33.1 23 0 (150) (by decide) (by decide)).trans rfl))))))))
                have q466 : (gV τ454 23 0 152).toInt = (gV τ 23 0 152).toInt := congrArg Int32.toInt (show (gV τ454 23 0 152) = (gV τ 23 0 152) from (show gV τ454 23 0 152 = (gV τ 23 0 152) from (f456.1 23 0 (152) (by decide) (by decide)).trans (show gV τ430 23 0 152 = (gV τ 23 0 152) from (gV_putn eτ430 (Or.inr (Or.inr (by omega)))).trans (show gV τ272 23 0 152 = (gV τ 23 0 152) from (f274.1 23 0 (152) (by decide) (by decide)).trans (show gV τ249 23 0 152 = (gV τ 23 0 152) from (gV_putn eτ249 (Or.inr (Or.inr (by omega)))).trans (show gV τ71 23 0 152 = (gV τ 23 0 152) from (f73.1 23 0 (152) (by decide) (by decide)).trans (show gV τ51 23 0 152 = (gV τ 23 0 152) from (gV_putn eτ51 (Or.inr (Or.inr (by omega)))).trans (show gV τ31 23 0 152 = (gV τ 23 0 152) from (f33.1 23 0 (152) (by decide) (by decide)).trans rfl))))))))
                have q467 : (gV τ454 23 0 188).toInt = (gV τ 23 0 188).toInt := congrArg Int32.toInt (show (gV τ454 23 0 188) = (gV τ 23 0 188) from (show gV τ454 23 0 188 = (gV τ 23 0 188) from (f456.1 23 0 (188) (by decide) (by decide)).trans (show gV τ430 23 0 188 = (gV τ 23 0 188) from (gV_putn eτ430 (Or.inr (Or.inr (by omega)))).trans (show gV τ272 23 0 188 = (gV τ 23 0 188) from (f274.1 23 0 (188) (by decide) (by decide)).trans (show gV τ249 23 0 188 = (gV τ 23 0 188) from (gV_putn eτ249 (Or.inr (Or.inr (by omega)))).trans (show gV τ71 23 0 188 = (gV τ 23 0 188) from (f73.1 23 0 (188) (by decide) (by decide)).trans (show gV τ51 23 0 188 = (gV τ 23 0 188) from (gV_putn eτ51 (Or.inr (Or.inr (by omega)))).trans (show gV τ31 23 0 188 = (gV τ 23 0 188) from (f33.1 23 0 (188) (by decide) (by decide)).trans rfl))))))))
                rcases h460 with ⟨h460_0, h460_1, h460_2, h460_3, h460_4⟩ | ⟨h460_0, h460_1, h460_2, h460_3, h460_4, h460_5, h460_6⟩ | ⟨h460_0, h460_1, h460_2, h460_3, h460_4, h460_5, h460_6⟩
                · skip
                  have b468 : IV x457 (-1) (-1) := ⟨by omega, by omega⟩
                  have v469 : CQ (gV σ 23 0 152).toInt.toNat τ454 := v445.call (fun q => by omega) (fun k => f456.1 23 0 k (by simp) (by decide))
                  have b470 : IV (gV τ454 22 0 16) 1 1 := ⟨by omega, by omega⟩
                  show MW p l e _ s m args below meth c _ 4 G 0 0 139 [some (.ref (G.1 22 0)), some (.int y1), some (.int z0), none] [.int x457] τ454
                  refine m_goto (tgt := 143) C dX12_takePerson_139 (by decide) ?_
                  refine m_istore_n (L1 := [some (.ref (G.1 22 0)), some (.int y1), some (.int z0), some (.int x457)]) C dX12_takePerson_143 rfl (by decide) rfl rfl ?_
                  refine m_aload_n C dX12_takePerson_144 rfl rfl ?_
                  refine g_22_0 C q4_116 dX12_takePerson_145 ?_
                  refine m_sipush (v := 174) C dX12_takePerson_148 (by decide) ?_
                  refine m_iload_n C dX12_takePerson_151 rfl rfl ?_
                  refine m_iadd C dX12_takePerson_152 ?_
                  refine m_topi (fun x471 ex471 => ?_)
                  have tx471 : x471.toInt = 174 + y1.toInt := by rw [ex471, ti_addv kc_174 b_y1 (by decide), kt_174]
                  have b472 : IV x471 174 180 := by rw [ex471]; exact iv_add kc_174 b_y1 (by decide)
                  refine m_iload_n C dX12_takePerson_153 rfl rfl ?_
                  refine m_bipush (v := 99) C dX12_takePerson_154 (by decide) ?_
                  refine m_icmp_ne (tgt := 163) C dX12_takePerson_156 (by decide) (fun c473 => ?_) (fun c473 => ?_)
                  · have f474 : x457.toInt ≠ 99 := by
                      have q : _ := c473
                      simp only [ti_nle, ti_nlt, ti_le, ti_lt, ti_eq, ti_ne, Classical.not_not, kt_99] at q
                      omega
                    refine m_iload_n C dX12_takePerson_163 rfl rfl ?_
                    refine as_23 C b472 (by decide) rfl dX12_takePerson_164 ?_
                    refine m_tops (fun τ475 eτ475 => ?_)
                    have i476 : Inv τ475 := eτ475 ▸ Inv.putRo i455 (by omega)
                    have f477 : Fr MS_X12_takePersonE AS_X12_takePersonE σ τ475 := eτ475 ▸ Fr.put (g459) (Or.inr (by decide))
                    have v478 : CP (gV σ 23 0 152).toInt τ475 := v461.put eτ475 (Or.inr (fun q hq => by omega))
                    have v479 : TpM τ475 T N := v462.put eτ475 (Or.inl (by decide)) (by decide)
                    have v480 : CQ (gV σ 23 0 152).toInt.toNat τ475 := v469.put eτ475 (Or.inl (by decide)) (Or.inr (by omega))
                    refine m_aload_n C dX12_takePerson_165 rfl rfl ?_
                    refine g_22_0 C q4_116 dX12_takePerson_166 ?_
                    refine m_sipush (v := 181) C dX12_takePerson_169 (by decide) ?_
                    refine m_iload_n C dX12_takePerson_172 rfl rfl ?_
                    refine m_iadd C dX12_takePerson_173 ?_
                    refine m_topi (fun x481 ex481 => ?_)
                    have tx481 : x481.toInt = 181 + y1.toInt := by rw [ex481, ti_addv kc_181 b_y1 (by decide), kt_181]
                    have b482 : IV x481 181 187 := by rw [ex481]; exact iv_add kc_181 b_y1 (by decide)
                    refine m_iconst (v := 0) C dX12_takePerson_174 (by decide) ?_
                    refine as_23 C b482 (by decide) rfl dX12_takePerson_175 ?_
                    refine m_tops (fun τ483 eτ483 => ?_)
                    have i484 : Inv τ483 := eτ483 ▸ Inv.putR0 i476 (by omega) kt_0
                    have f485 : Fr MS_X12_takePersonE AS_X12_takePersonE σ τ483 := eτ483 ▸ Fr.put (f477) (Or.inr (by decide))
                    have v486 : CP (gV σ 23 0 152).toInt τ483 := v478.put eτ483 (Or.inr (fun q hq => by omega))
                    have v487 : TpM τ483 T N := v479.put eτ483 (Or.inl (by decide)) (by decide)
                    have v488 : CQ (gV σ 23 0 152).toInt.toNat τ483 := v480.put eτ483 (Or.inl (by decide)) (Or.inr (by omega))
                    refine m_aload_n C dX12_takePerson_176 rfl rfl ?_
                    refine g_22_0 C q4_116 dX12_takePerson_177 ?_
                    refine m_sipush (v := 152) C dX12_takePerson_180 (by decide) ?_
                    refine m_dup2 C dX12_takePerson_183 rfl rfl ?_
                    refine al_23 C kc_152 (by decide) kn_152 dX12_takePerson_184 ?_
                    refine m_eqs (w := (gV τ 23 0 152)) (show gV τ483 23 0 152 = (gV τ 23 0 152) from (gV_putn eτ483 (Or.inr (Or.inr (by omega)))).trans (show gV τ475 23 0 152 = (gV τ 23 0 152) from (gV_putn eτ475 (Or.inr (Or.inr (by omega)))).trans (show gV τ454 23 0 152 = (gV τ 23 0 152) from (f456.1 23 0 (152) (by decide) (by decide)).trans (show gV τ430 23 0 152 = (gV τ 23 0 152) from (gV_putn eτ430 (Or.inr (Or.inr (by omega)))).trans (show gV τ272 23 0 152 = (gV τ 23 0 152) from (f274.1 23 0 (152) (by decide) (by decide)).trans (show gV τ249 23 0 152 = (gV τ 23 0 152) from (gV_putn eτ249 (Or.inr (Or.inr (by omega)))).trans (show gV τ71 23 0 152 = (gV τ 23 0 152) from (f73.1 23 0 (152) (by decide) (by decide)).trans (show gV τ51 23 0 152 = (gV τ 23 0 152) from (gV_putn eτ51 (Or.inr (Or.inr (by omega)))).trans (show gV τ31 23 0 152 = (gV τ 23 0 152) from (f33.1 23 0 (152) (by decide) (by decide)).trans rfl))))))))) ?_
                    refine m_iconst (v := 1) C dX12_takePerson_185 (by decide) ?_
                    refine m_iadd C dX12_takePerson_186 ?_
                    refine m_topi (fun x489 ex489 => ?_)
                    have tx489 : x489.toInt = (gV τ 23 0 152).toInt + 1 := by rw [ex489, ti_addv u3 kc_1 (by decide), kt_1]
                    have b490 : IV x489 1 8 := by rw [ex489]; exact iv_add u3 kc_1 (by decide)
                    refine as_23 C kc_152 (by decide) kn_152 dX12_takePerson_187 ?_
                    refine m_tops (fun τ491 eτ491 => ?_)
                    have i492 : Inv τ491 := eτ491 ▸ Inv.putR i484 (by decide) (iv_wk b490 (by decide))
                    have f493 : Fr MS_X12_takePersonE AS_X12_takePersonE σ τ491 := eτ491 ▸ Fr.put (f485) (Or.inr (by decide))
                    have v494 : CP (gV σ 23 0 152).toInt τ491 := v486.put eτ491 (Or.inr (fun q hq => by omega))
                    have v495 : TpM τ491 T N := v487.put eτ491 (Or.inl (by decide)) (by decide)
                    have v496 : CQ (gV σ 23 0 152).toInt.toNat τ491 := v488.put eτ491 (Or.inl (by decide)) (Or.inr (by omega))
                    refine m_aload_n C dX12_takePerson_188 rfl rfl ?_
                    have q497 : (gV τ491 22 0 6).toInt = (gV τ 22 0 6).toInt := congrArg Int32.toInt (show (gV τ491 22 0 6) = (gV τ 22 0 6) from (show gV τ491 22 0 6 = (gV τ 22 0 6) from gV_put eτ491 (show gV τ483 22 0 6 = (gV τ 22 0 6) from gV_put eτ483 (show gV τ475 22 0 6 = (gV τ 22 0 6) from gV_put eτ475 (show gV τ454 22 0 6 = (gV τ 22 0 6) from (f456.1 22 0 (6) (by decide) (by decide)).trans (show gV τ430 22 0 6 = (gV τ 22 0 6) from gV_put eτ430 (show gV τ272 22 0 6 = (gV τ 22 0 6) from (f274.1 22 0 (6) (by decide) (by decide)).trans (show gV τ249 22 0 6 = (gV τ 22 0 6) from gV_put eτ249 (show gV τ71 22 0 6 = (gV τ 22 0 6) from (f73.1 22 0 (6) (by decide) (by decide)).trans (show gV τ51 22 0 6 = (gV τ 22 0 6) from gV_put eτ51 (show gV τ31 22 0 6 = (gV τ 22 0 6) from (f33.1 22 0 (6) (by decide) (by decide)).trans rfl)))))))))))
                    have q498 : (gV τ491 23 0 150).toInt = (gV τ 23 0 150).toInt := congrArg Int32.toInt (show (gV τ491 23 0 150) = (gV τ 23 0 150) from (show gV τ491 23 0 150 = (gV τ 23 0 150) from gV_put eτ491 (show gV τ483 23 0 150 = (gV τ 23 0 150) from (gV_putn eτ483 (Or.inr (Or.inr (by omega)))).trans (show gV τ475 23 0 150 = (gV τ 23 0 150) from (gV_putn eτ475 (Or.inr (Or.inr (by omega)))).trans (show gV τ454 23 0 150 = (gV τ 23 0 150) from (f456.1 23 0 (150) (by decide) (by decide)).trans (show gV τ430 23 0 150 = (gV τ 23 0 150) from (gV_putn eτ430 (Or.inr (Or.inr (by omega)))).trans (show gV τ272 23 0 150 = (gV τ 23 0 150) from (f274.1 23 0 (150) (by decide) (by decide)).trans (show gV τ249 23 0 150 = (gV τ 23 0 150) from (gV_putn eτ249 (Or.inr (Or.inr (by omega)))).trans (show gV τ71 23 0 150 = (gV τ 23 0 150) from (f73.1 23 0 (150) (by decide) (by decide)).trans (show gV τ51 23 0 150 = (gV τ 23 0 150) from (gV_putn eτ51 (Or.inr (Or.inr (by omega)))).trans (show gV τ31 23 0 150 = (gV τ 23 0 150) from (f33.1 23 0 (150) (by decide) (by decide)).trans rfl)))))))))))
                    have q499 : (gV τ491 23 0 188).toInt = (gV τ 23 0 188).toInt := congrArg Int32.toInt (show (gV τ491 23 0 188) = (gV τ 23 0 188) from (show gV τ491 23 0 188 = (gV τ 23 0 188) from gV_put eτ491 (show gV τ483 23 0 188 = (gV τ 23 0 188) from (gV_putn eτ483 (Or.inr (Or.inr (by omega)))).trans (show gV τ475 23 0 188 = (gV τ 23 0 188) from (gV_putn eτ475 (Or.inr (Or.inr (by omega)))).trans (show gV τ454 23 0 188 = (gV τ 23 0 188) from (f456.1 23 0 (188) (by decide) (by decide)).trans (show gV τ430 23 0 188 = (gV τ 23 0 188) from (gV_putn eτ430 (Or.inr (Or.inr (by omega)))).trans (show gV τ272 23 0 188 = (gV τ 23 0 188) from (f274.1 23 0 (188) (by decide) (by decide)).trans (show gV τ249 23 0 188 = (gV τ 23 0 188) from (gV_putn eτ249 (Or.inr (Or.inr (by omega)))).trans (show gV τ71 23 0 188 = (gV τ 23 0 188) from (f73.1 23 0 (188) (by decide) (by decide)).trans (show gV τ51 23 0 188 = (gV τ 23 0 188) from (gV_putn eτ51 (Or.inr (Or.inr (by omega)))).trans (show gV τ31 23 0 188 = (gV τ 23 0 188) from (f33.1 23 0 (188) (by decide) (by decide)).trans rfl)))))))))))
                    have q500 : (gV τ491 22 0 11).toInt = (gV τ454 22 0 11).toInt := congrArg Int32.toInt (show (gV τ491 22 0 11) = (gV τ454 22 0 11) from (show gV τ491 22 0 11 = (gV τ454 22 0 11) from gV_put eτ491 (show gV τ483 22 0 11 = (gV τ454 22 0 11) from gV_put eτ483 (show gV τ475 22 0 11 = (gV τ454 22 0 11) from gV_put eτ475 rfl))))
                    have q501 : (gV τ491 22 0 12).toInt = (gV τ454 22 0 12).toInt := congrArg Int32.toInt (show (gV τ491 22 0 12) = (gV τ454 22 0 12) from (show gV τ491 22 0 12 = (gV τ454 22 0 12) from gV_put eτ491 (show gV τ483 22 0 12 = (gV τ454 22 0 12) from gV_put eτ483 (show gV τ475 22 0 12 = (gV τ454 22 0 12) from gV_put eτ475 rfl))))
                    have q502 : (gV τ491 22 0 13).toInt = (gV τ454 22 0 13).toInt := congrArg Int32.toInt (show (gV τ491 22 0 13) = (gV τ454 22 0 13) from (show gV τ491 22 0 13 = (gV τ454 22 0 13) from gV_put eτ491 (show gV τ483 22 0 13 = (gV τ454 22 0 13) from gV_put eτ483 (show gV τ475 22 0 13 = (gV τ454 22 0 13) from gV_put eτ475 rfl))))
                    have q503 : (gV τ491 22 0 15).toInt = (gV τ454 22 0 15).toInt := congrArg Int32.toInt (show (gV τ491 22 0 15) = (gV τ454 22 0 15) from (show gV τ491 22 0 15 = (gV τ454 22 0 15) from gV_put eτ491 (show gV τ483 22 0 15 = (gV τ454 22 0 15) from gV_put eτ483 (show gV τ475 22 0 15 = (gV τ454 22 0 15) from gV_put eτ475 rfl))))
                    have q504 : (gV τ491 22 0 16).toInt = (gV τ454 22 0 16).toInt := congrArg Int32.toInt (show (gV τ491 22 0 16) = (gV τ454 22 0 16) from (show gV τ491 22 0 16 = (gV τ454 22 0 16) from gV_put eτ491 (show gV τ483 22 0 16 = (gV τ454 22 0 16) from gV_put eτ483 (show gV τ475 22 0 16 = (gV τ454 22 0 16) from gV_put eτ475 rfl))))
                    have q505 : (gV τ491 23 0 152).toInt = x489.toInt := congrArg Int32.toInt (show (gV τ491 23 0 152) = x489 from (show gV τ491 23 0 152 = x489 from gV_put eτ491 (gV_self _ _ _ _ _)))
                    refine m_callV (n := 0) (ci := 11) (st := []) C (c_X12_takeSignE l G τ491 T N (tE T N (tE T N (tE T N (tE T N (tE T N i)))))  i492 v495 (by omega) (by omega)) (by decide) (by decide) rfl rfl rfl q5_15 q5_12 q5_14 q0_32 q1_7 (by decide +kernel) rfl (by decide) (by decide) rfl (Nat.le_of_ble_eq_true rfl) dX12_takePerson_189 ?_
                    rintro _ τ506 ⟨rfl, i507, f508, h512⟩
                    have g511 : Fr MS_X12_takePersonE AS_X12_takePersonE σ τ506 := Fr.call (f493) f508 (by decide)
                    have v513 : CP (gV σ 23 0 152).toInt τ506 := v494.call (fun k => f508.1 23 0 k (by simp) (by decide))
                    have v514 : TpM τ506 T N := v495.fr f508 (by decide) (by decide) (by simp) (by decide)
                    have u515 : IV (gV τ506 22 0 11) 0 400 := i507.1 22 0 11
                    have q516 : (gV τ506 22 0 6).toInt = (gV τ 22 0 6).toInt := congrArg Int32.toInt (show (gV τ506 22 0 6) = (gV τ 22 0 6) from (show gV τ506 22 0 6 = (gV τ 22 0 6) from (f508.1 22 0 (6) (by decide) (by decide)).trans (show gV τ491 22 0 6 = (gV τ 22 0 6) from gV_put eτ491 (show gV τ483 22 0 6 = (gV τ 22 0 6) from gV_put eτ483 (show gV τ475 22 0 6 = (gV τ 22 0 6) from gV_put eτ475 (show gV τ454 22 0 6 = (gV τ 22 0 6) from (f456.1 22 0 (6) (by decide) (by decide)).trans (show gV τ430 22 0 6 = (gV τ 22 0 6) from gV_put eτ430 (show gV τ272 22 0 6 = (gV τ 22 0 6) from (f274.1 22 0 (6) (by decide) (by decide)).trans (show gV τ249 22 0 6 = (gV τ 22 0 6) from gV_put eτ249 (show gV τ71 22 0 6 = (gV τ 22 0 6) from (f73.1 22 0 (6) (by decide) (by decide)).trans (show gV τ51 22 0 6 = (gV τ 22 0 6) from gV_put eτ51 (show gV τ31 22 0 6 = (gV τ 22 0 6) from (f33.1 22 0 (6) (by decide) (by decide)).trans rfl))))))))))))
                    have q517 : (gV τ506 23 0 150).toInt = (gV τ 23 0 150).toInt := congrArg Int32.toInt (show (gV τ506 23 0 150) = (gV τ 23 0 150) from (show gV τ506 23 0 150 = (gV τ 23 0 150) from (f508.1 23 0 (150) (by decide) (by decide)).trans (show gV τ491 23 0 150 = (gV τ 23 0 150) from gV_put eτ491 (show gV τ483 23 0 150 = (gV τ 23 0 150) from (gV_putn eτ483 (Or.inr (Or.inr (by omega)))).trans (show gV τ475 23 0 150 = (gV τ 23 0 150) from (gV_putn eτ475 (Or.inr (Or.inr (by omega)))).trans (show gV τ454 23 0 150 = (gV τ 23 0 150) from (f456.1 23 0 (150) (by decide) (by decide)).trans (show gV τ430 23 0 150 = (gV τ 23 0 150) from (gV_putn eτ430 (Or.inr (Or.inr (by omega)))).trans (show gV τ272 23 0 150 = (gV τ 23 0 150) from (f274.1 23 0 (150) (by decide) (by decide)).trans (show gV τ249 23 0 150 = (gV τ 23 0 150) from (gV_putn eτ249 (Or.inr (Or.inr (by omega)))).trans (show gV τ71 23 0 150 = (gV τ 23 0 150) from (f73.1 23 0 (150) (by decide) (by decide)).trans (show gV τ51 23 0 150 = (gV τ 23 0 150) from (gV_putn eτ51 (Or.inr (Or.inr (by omega)))).trans (show gV τ31 23 0 150 = (gV τ 23 0 150) from (f33.1 23 0 (150) (by decide) (by decide)).trans rfl))))))))))))
                    have q518 : (gV τ506 23 0 188).toInt = (gV τ 23 0 188).toInt := congrArg Int32.toInt (show (gV τ506 23 0 188) = (gV τ 23 0 188) from (show gV τ506 23 0 188 = (gV τ 23 0 188) from (f508.1 23 0 (188) (by decide) (by decide)).trans (show gV τ491 23 0 188 = (gV τ 23 0 188) from gV_put eτ491 (show gV τ483 23 0 188 = (gV τ 23 0 188) from (gV_putn eτ483 (Or.inr (Or.inr (by omega)))).trans (show gV τ475 23 0 188 = (gV τ 23 0 188) from (gV_putn eτ475 (Or.inr (Or.inr (by omega)))).trans (show gV τ454 23 0 188 = (gV τ 23 0 188) from (f456.1 23 0 (188) (by decide) (by decide)).trans (show gV τ430 23 0 188 = (gV τ 23 0 188) from (gV_putn eτ430 (Or.inr (Or.inr (by omega)))).trans (show gV τ272 23 0 188 = (gV τ 23 0 188) from (f274.1 23 0 (188) (by decide) (by decide)).trans (show gV τ249 23 0 188 = (gV τ 23 0 188) from (gV_putn eτ249 (Or.inr (Or.inr (by omega)))).trans (show gV τ71 23 0 188 = (gV τ 23 0 188) from (f73.1 23 0 (188) (by decide) (by decide)).trans (show gV τ51 23 0 188 = (gV τ 23 0 188) from (gV_putn eτ51 (Or.inr (Or.inr (by omega)))).trans (show gV τ31 23 0 188 = (gV τ 23 0 188) from (f33.1 23 0 (188) (by decide) (by decide)).trans rfl))))))))))))
                    have q519 : (gV τ506 23 0 152).toInt = x489.toInt := congrArg Int32.toInt (show (gV τ506 23 0 152) = x489 from (show gV τ506 23 0 152 = x489 from (f508.1 23 0 (152) (by decide) (by decide)).trans (show gV τ491 23 0 152 = x489 from gV_put eτ491 (gV_self _ _ _ _ _))))
                    rcases h512 with ⟨h512_0, h512_1, h512_2, h512_3⟩ | ⟨h512_0, h512_1, h512_2, h512_3, h512_4⟩ | ⟨h512_0, h512_1, h512_2, h512_3, h512_4, h512_5⟩
                    · skip
                      have v520 : CQ (gV σ 23 0 152).toInt.toNat τ506 := v496.call (fun q => by omega) (fun k => f508.1 23 0 k (by simp) (by decide))
                      show MW p l e _ s m args below meth c _ 4 G 0 0 192 [some (.ref (G.1 22 0)), some (.int y1), some (.int z0), some (.int x457)] [] τ506
                      exact m_vret C hr hlk (by decide) (by decide) dX12_takePerson_192 ⟨rfl, i507, g511, (by have qd := per_6 T N st cc i (by omega) (by omega) (by omega) (by omega) (by omega) (by omega) (by omega); exact Or.inl ⟨by omega, by omega, by omega, by omega, by omega, by omega⟩)⟩
                    · skip
                      exfalso; omega
                    · skip
                      exfalso; omega
                  · exfalso
                    have q : _ := c473
                    simp only [ti_nle, ti_nlt, ti_le, ti_lt, ti_eq, ti_ne, Classical.not_not, kt_99] at q
                    have q1 := b468; have q2 := kc_99; omega
                · skip
                  have b522 : IV x457 (-1) (-1) := ⟨by omega, by omega⟩
                  have v523 : CQ (gV σ 23 0 152).toInt.toNat τ454 := v445.call (fun q => by omega) (fun k => f456.1 23 0 k (by simp) (by decide))
                  have b524 : IV (gV τ454 22 0 16) 2 2 := ⟨by omega, by omega⟩
                  show MW p l e _ s m args below meth c _ 4 G 0 0 139 [some (.ref (G.1 22 0)), some (.int y1), some (.int z0), none] [.int x457] τ454
                  refine m_goto (tgt := 143) C dX12_takePerson_139 (by decide) ?_
                  refine m_istore_n (L1 := [some (.ref (G.1 22 0)), some (.int y1), some (.int z0), some (.int x457)]) C dX12_takePerson_143 rfl (by decide) rfl rfl ?_
                  refine m_aload_n C dX12_takePerson_144 rfl rfl ?_
                  refine g_22_0 C q4_116 dX12_takePerson_145 ?_
                  refine m_sipush (v := 174) C dX12_takePerson_148 (by decide) ?_
                  refine m_iload_n C dX12_takePerson_151 rfl rfl ?_
                  refine m_iadd C dX12_takePerson_152 ?_
                  refine m_topi (fun x525 ex525 => ?_)
                  have tx525 : x525.toInt = 174 + y1.toInt := by rw [ex525, ti_addv kc_174 b_y1 (by decide), kt_174]
                  have b526 : IV x525 174 180 := by rw [ex525]; exact iv_add kc_174 b_y1 (by decide)
                  refine m_iload_n C dX12_takePerson_153 rfl rfl ?_
                  refine m_bipush (v := 99) C dX12_takePerson_154 (by decide) ?_
                  refine m_icmp_ne (tgt := 163) C dX12_takePerson_156 (by decide) (fun c527 => ?_) (fun c527 => ?_)
                  · have f528 : x457.toInt ≠ 99 := by
                      have q : _ := c527
                      simp only [ti_nle, ti_nlt, ti_le, ti_lt, ti_eq, ti_ne, Classical.not_not, kt_99] at q
                      omega
                    refine m_iload_n C dX12_takePerson_163 rfl rfl ?_
                    refine as_23 C b526 (by decide) rfl dX12_takePerson_164 ?_
                    refine m_tops (fun τ529 eτ529 => ?_)
                    have i530 : Inv τ529 := eτ529 ▸ Inv.putRo i455 (by omega)
                    have f531 : Fr MS_X12_takePersonE AS_X12_takePersonE σ τ529 := eτ529 ▸ Fr.put (g459) (Or.inr (by decide))
                    have v532 : CP (gV σ 23 0 152).toInt τ529 := v461.put eτ529 (Or.inr (fun q hq => by omega))
                    have v533 : TpM τ529 T N := v462.put eτ529 (Or.inl (by decide)) (by decide)
                    have v534 : CQ (gV σ 23 0 152).toInt.toNat τ529 := v523.put eτ529 (Or.inl (by decide)) (Or.inr (by omega))
                    refine m_aload_n C dX12_takePerson_165 rfl rfl ?_
                    refine g_22_0 C q4_116 dX12_takePerson_166 ?_
                    refine m_sipush (v := 181) C dX12_takePerson_169 (by decide) ?_
                    refine m_iload_n C dX12_takePerson_172 rfl rfl ?_
                    refine m_iadd C dX12_takePerson_173 ?_
                    refine m_topi (fun x535 ex535 => ?_)
                    have tx535 : x535.toInt = 181 + y1.toInt := by rw [ex535, ti_addv kc_181 b_y1 (by decide), kt_181]
                    have b536 : IV x535 181 187 := by rw [ex535]; exact iv_add kc_181 b_y1 (by decide)
                    refine m_iconst (v := 0) C dX12_takePerson_174 (by decide) ?_
                    refine as_23 C b536 (by decide) rfl dX12_takePerson_175 ?_
                    refine m_tops (fun τ537 eτ537 => ?_)
                    have i538 : Inv τ537 := eτ537 ▸ Inv.putR0 i530 (by omega) kt_0
                    have f539 : Fr MS_X12_takePersonE AS_X12_takePersonE σ τ537 := eτ537 ▸ Fr.put (f531) (Or.inr (by decide))
                    have v540 : CP (gV σ 23 0 152).toInt τ537 := v532.put eτ537 (Or.inr (fun q hq => by omega))
                    have v541 : TpM τ537 T N := v533.put eτ537 (Or.inl (by decide)) (by decide)
                    have v542 : CQ (gV σ 23 0 152).toInt.toNat τ537 := v534.put eτ537 (Or.inl (by decide)) (Or.inr (by omega))
                    refine m_aload_n C dX12_takePerson_176 rfl rfl ?_
                    refine g_22_0 C q4_116 dX12_takePerson_177 ?_
                    refine m_sipush (v := 152) C dX12_takePerson_180 (by decide) ?_
                    refine m_dup2 C dX12_takePerson_183 rfl rfl ?_
                    refine al_23 C kc_152 (by decide) kn_152 dX12_takePerson_184 ?_
                    refine m_eqs (w := (gV τ 23 0 152)) (show gV τ537 23 0 152 = (gV τ 23 0 152) from (gV_putn eτ537 (Or.inr (Or.inr (by omega)))).trans (show gV τ529 23 0 152 = (gV τ 23 0 152) from (gV_putn eτ529 (Or.inr (Or.inr (by omega)))).trans (show gV τ454 23 0 152 = (gV τ 23 0 152) from (f456.1 23 0 (152) (by decide) (by decide)).trans (show gV τ430 23 0 152 = (gV τ 23 0 152) from (gV_putn eτ430 (Or.inr (Or.inr (by omega)))).trans (show gV τ272 23 0 152 = (gV τ 23 0 152) from (f274.1 23 0 (152) (by decide) (by decide)).trans (show gV τ249 23 0 152 = (gV τ 23 0 152) from (gV_putn eτ249 (Or.inr (Or.inr (by omega)))).trans (show gV τ71 23 0 152 = (gV τ 23 0 152) from (f73.1 23 0 (152) (by decide) (by decide)).trans (show gV τ51 23 0 152 = (gV τ 23 0 152) from (gV_putn eτ51 (Or.inr (Or.inr (by omega)))).trans (show gV τ31 23 0 152 = (gV τ 23 0 152) from (f33.1 23 0 (152) (by decide) (by decide)).trans rfl))))))))) ?_
                    refine m_iconst (v := 1) C dX12_takePerson_185 (by decide) ?_
                    refine m_iadd C dX12_takePerson_186 ?_
                    refine m_topi (fun x543 ex543 => ?_)
                    have tx543 : x543.toInt = (gV τ 23 0 152).toInt + 1 := by rw [ex543, ti_addv u3 kc_1 (by decide), kt_1]
                    have b544 : IV x543 1 8 := by rw [ex543]; exact iv_add u3 kc_1 (by decide)
                    refine as_23 C kc_152 (by decide) kn_152 dX12_takePerson_187 ?_
                    refine m_tops (fun τ545 eτ545 => ?_)
                    have i546 : Inv τ545 := eτ545 ▸ Inv.putR i538 (by decide) (iv_wk b544 (by decide))
                    have f547 : Fr MS_X12_takePersonE AS_X12_takePersonE σ τ545 := eτ545 ▸ Fr.put (f539) (Or.inr (by decide))
                    have v548 : CP (gV σ 23 0 152).toInt τ545 := v540.put eτ545 (Or.inr (fun q hq => by omega))
                    have v549 : TpM τ545 T N := v541.put eτ545 (Or.inl (by decide)) (by decide)
                    have v550 : CQ (gV σ 23 0 152).toInt.toNat τ545 := v542.put eτ545 (Or.inl (by decide)) (Or.inr (by omega))
                    refine m_aload_n C dX12_takePerson_188 rfl rfl ?_
                    have q551 : (gV τ545 22 0 6).toInt = (gV τ 22 0 6).toInt := congrArg Int32.toInt (show (gV τ545 22 0 6) = (gV τ 22 0 6) from (show gV τ545 22 0 6 = (gV τ 22 0 6) from gV_put eτ545 (show gV τ537 22 0 6 = (gV τ 22 0 6) from gV_put eτ537 (show gV τ529 22 0 6 = (gV τ 22 0 6) from gV_put eτ529 (show gV τ454 22 0 6 = (gV τ 22 0 6) from (f456.1 22 0 (6) (by decide) (by decide)).trans (show gV τ430 22 0 6 = (gV τ 22 0 6) from gV_put eτ430 (show gV τ272 22 0 6 = (gV τ 22 0 6) from (f274.1 22 0 (6) (by decide) (by decide)).trans (show gV τ249 22 0 6 = (gV τ 22 0 6) from gV_put eτ249 (show gV τ71 22 0 6 = (gV τ 22 0 6) from (f73.1 22 0 (6) (by decide) (by decide)).trans (show gV τ51 22 0 6 = (gV τ 22 0 6) from gV_put eτ51 (show gV τ31 22 0 6 = (gV τ 22 0 6) from (f33.1 22 0 (6) (by decide) (by decide)).trans rfl)))))))))))
                    have q552 : (gV τ545 23 0 150).toInt = (gV τ 23 0 150).toInt := congrArg Int32.toInt (show (gV τ545 23 0 150) = (gV τ 23 0 150) from (show gV τ545 23 0 150 = (gV τ 23 0 150) from gV_put eτ545 (show gV τ537 23 0 150 = (gV τ 23 0 150) from (gV_putn eτ537 (Or.inr (Or.inr (by omega)))).trans (show gV τ529 23 0 150 = (gV τ 23 0 150) from (gV_putn eτ529 (Or.inr (Or.inr (by omega)))).trans (show gV τ454 23 0 150 = (gV τ 23 0 150) from (f456.1 23 0 (150) (by decide) (by decide)).trans (show gV τ430 23 0 150 = (gV τ 23 0 150) from (gV_putn eτ430 (Or.inr (Or.inr (by omega)))).trans (show gV τ272 23 0 150 = (gV τ 23 0 150) from (f274.1 23 0 (150) (by decide) (by decide)).trans (show gV τ249 23 0 150 = (gV τ 23 0 150) from (gV_putn eτ249 (Or.inr (Or.inr (by omega)))).trans (show gV τ71 23 0 150 = (gV τ 23 0 150) from (f73.1 23 0 (150) (by decide) (by decide)).trans (show gV τ51 23 0 150 = (gV τ 23 0 150) from (gV_putn eτ51 (Or.inr (Or.inr (by omega)))).trans (show gV τ31 23 0 150 = (gV τ 23 0 150) from (f33.1 23 0 (150) (by decide) (by decide)).trans rfl)))))))))))
                    have q553 : (gV τ545 23 0 188).toInt = (gV τ 23 0 188).toInt := congrArg Int32.toInt (show (gV τ545 23 0 188) = (gV τ 23 0 188) from (show gV τ545 23 0 188 = (gV τ 23 0 188) from gV_put eτ545 (show gV τ537 23 0 188 = (gV τ 23 0 188) from (gV_putn eτ537 (Or.inr (Or.inr (by omega)))).trans (show gV τ529 23 0 188 = (gV τ 23 0 188) from (gV_putn eτ529 (Or.inr (Or.inr (by omega)))).trans (show gV τ454 23 0 188 = (gV τ 23 0 188) from (f456.1 23 0 (188) (by decide) (by decide)).trans (show gV τ430 23 0 188 = (gV τ 23 0 188) from (gV_putn eτ430 (Or.inr (Or.inr (by omega)))).trans (show gV τ272 23 0 188 = (gV τ 23 0 188) from (f274.1 23 0 (188) (by decide) (by decide)).trans (show gV τ249 23 0 188 = (gV τ 23 0 188) from (gV_putn eτ249 (Or.inr (Or.inr (by omega)))).trans (show gV τ71 23 0 188 = (gV τ 23 0 188) from (f73.1 23 0 (188) (by decide) (by decide)).trans (show gV τ51 23 0 188 = (gV τ 23 0 188) from (gV_putn eτ51 (Or.inr (Or.inr (by omega)))).trans (show gV τ31 23 0 188 = (gV τ 23 0 188) from (f33.1 23 0 (188) (by decide) (by decide)).trans rfl)))))))))))
                    have q554 : (gV τ545 22 0 11).toInt = (gV τ454 22 0 11).toInt := congrArg Int32.toInt (show (gV τ545 22 0 11) = (gV τ454 22 0 11) from (show gV τ545 22 0 11 = (gV τ454 22 0 11) from gV_put eτ545 (show gV τ537 22 0 11 = (gV τ454 22 0 11) from gV_put eτ537 (show gV τ529 22 0 11 = (gV τ454 22 0 11) from gV_put eτ529 rfl))))
                    have q555 : (gV τ545 22 0 12).toInt = (gV τ454 22 0 12).toInt := congrArg Int32.toInt (show (gV τ545 22 0 12) = (gV τ454 22 0 12) from (show gV τ545 22 0 12 = (gV τ454 22 0 12) from gV_put eτ545 (show gV τ537 22 0 12 = (gV τ454 22 0 12) from gV_put eτ537 (show gV τ529 22 0 12 = (gV τ454 22 0 12) from gV_put eτ529 rfl))))
                    have q556 : (gV τ545 22 0 13).toInt = (gV τ454 22 0 13).toInt := congrArg Int32.toInt (show (gV τ545 22 0 13) = (gV τ454 22 0 13) from (show gV τ545 22 0 13 = (gV τ454 22 0 13) from gV_put eτ545 (show gV τ537 22 0 13 = (gV τ454 22 0 13) from gV_put eτ537 (show gV τ529 22 0 13 = (gV τ454 22 0 13) from gV_put eτ529 rfl))))
                    have q557 : (gV τ545 22 0 15).toInt = (gV τ454 22 0 15).toInt := congrArg Int32.toInt (show (gV τ545 22 0 15) = (gV τ454 22 0 15) from (show gV τ545 22 0 15 = (gV τ454 22 0 15) from gV_put eτ545 (show gV τ537 22 0 15 = (gV τ454 22 0 15) from gV_put eτ537 (show gV τ529 22 0 15 = (gV τ454 22 0 15) from gV_put eτ529 rfl))))
                    have q558 : (gV τ545 22 0 16).toInt = (gV τ454 22 0 16).toInt := congrArg Int32.toInt (show (gV τ545 22 0 16) = (gV τ454 22 0 16) from (show gV τ545 22 0 16 = (gV τ454 22 0 16) from gV_put eτ545 (show gV τ537 22 0 16 = (gV τ454 22 0 16) from gV_put eτ537 (show gV τ529 22 0 16 = (gV τ454 22 0 16) from gV_put eτ529 rfl))))
                    have q559 : (gV τ545 23 0 152).toInt = x543.toInt := congrArg Int32.toInt (show (gV τ545 23 0 152) = x543 from (show gV τ545 23 0 152 = x543 from gV_put eτ545 (gV_self _ _ _ _ _)))
                    refine m_callV (n := 0) (ci := 11) (st := []) C (c_X12_takeSignE l G τ545 T N (tE T N (tE T N (tE T N (tE T N (tE T N i)))))  i546 v549 (by omega) (by omega)) (by decide) (by decide) rfl rfl rfl q5_15 q5_12 q5_14 q0_32 q1_7 (by decide +kernel) rfl (by decide) (by decide) rfl (Nat.le_of_ble_eq_true rfl) dX12_takePerson_189 ?_
                    rintro _ τ560 ⟨rfl, i561, f562, h566⟩
                    have g565 : Fr MS_X12_takePersonE AS_X12_takePersonE σ τ560 := Fr.call (f547) f562 (by decide)
                    have v567 : CP (gV σ 23 0 152).toInt τ560 := v548.call (fun k => f562.1 23 0 k (by simp) (by decide))
                    have v568 : TpM τ560 T N := v549.fr f562 (by decide) (by decide) (by simp) (by decide)
                    have u569 : IV (gV τ560 22 0 11) 0 400 := i561.1 22 0 11
                    have q570 : (gV τ560 22 0 6).toInt = (gV τ 22 0 6).toInt := congrArg Int32.toInt (show (gV τ560 22 0 6) = (gV τ 22 0 6) from (show gV τ560 22 0 6 = (gV τ 22 0 6) from (f562.1 22 0 (6) (by decide) (by decide)).trans (show gV τ545 22 0 6 = (gV τ 22 0 6) from gV_put eτ545 (show gV τ537 22 0 6 = (gV τ 22 0 6) from gV_put eτ537 (show gV τ529 22 0 6 = (gV τ 22 0 6) from gV_put eτ529 (show gV τ454 22 0 6 = (gV τ 22 0 6) from (f456.1 22 0 (6) (by decide) (by decide)).trans (show gV τ430 22 0 6 = (gV τ 22 0 6) from gV_put eτ430 (show gV τ272 22 0 6 = (gV τ 22 0 6) from (f274.1 22 0 (6) (by decide) (by decide)).trans (show gV τ249 22 0 6 = (gV τ 22 0 6) from gV_put eτ249 (show gV τ71 22 0 6 = (gV τ 22 0 6) from (f73.1 22 0 (6) (by decide) (by decide)).trans (show gV τ51 22 0 6 = (gV τ 22 0 6) from gV_put eτ51 (show gV τ31 22 0 6 = (gV τ 22 0 6) from (f33.1 22 0 (6) (by decide) (by decide)).trans rfl))))))))))))
                    have q571 : (gV τ560 23 0 150).toInt = (gV τ 23 0 150).toInt := congrArg Int32.toInt (show (gV τ560 23 0 150) = (gV τ 23 0 150) from (show gV τ560 23 0 150 = (gV τ 23 0 150) from (f562.1 23 0 (150) (by decide) (by decide)).trans (show gV τ545 23 0 150 = (gV τ 23 0 150) from gV_put eτ545 (show gV τ537 23 0 150 = (gV τ 23 0 150) from (gV_putn eτ537 (Or.inr (Or.inr (by omega)))).trans (show gV τ529 23 0 150 = (gV τ 23 0 150) from (gV_putn eτ529 (Or.inr (Or.inr (by omega)))).trans (show gV τ454 23 0 150 = (gV τ 23 0 150) from (f456.1 23 0 (150) (by decide) (by decide)).trans (show gV τ430 23 0 150 = (gV τ 23 0 150) from (gV_putn eτ430 (Or.inr (Or.inr (by omega)))).trans (show gV τ272 23 0 150 = (gV τ 23 0 150) from (f274.1 23 0 (150) (by decide) (by decide)).trans (show gV τ249 23 0 150 = (gV τ 23 0 150) from (gV_putn eτ249 (Or.inr (Or.inr (by omega)))).trans (show gV τ71 23 0 150 = (gV τ 23 0 150) from (f73.1 23 0 (150) (by decide) (by decide)).trans (show gV τ51 23 0 150 = (gV τ 23 0 150) from (gV_putn eτ51 (Or.inr (Or.inr (by omega)))).trans (show gV τ31 23 0 150 = (gV τ 23 0 150) from (f33.1 23 0 (150) (by decide) (by decide)).trans rfl))))))))))))
                    have q572 : (gV τ560 23 0 188).toInt = (gV τ 23 0 188).toInt := congrArg Int32.toInt (show (gV τ560 23 0 188) = (gV τ 23 0 188) from (show gV τ560 23 0 188 = (gV τ 23 0 188) from (f562.1 23 0 (188) (by decide) (by decide)).trans (show gV τ545 23 0 188 = (gV τ 23 0 188) from gV_put eτ545 (show gV τ537 23 0 188 = (gV τ 23 0 188) from (gV_putn eτ537 (Or.inr (Or.inr (by omega)))).trans (show gV τ529 23 0 188 = (gV τ 23 0 188) from (gV_putn eτ529 (Or.inr (Or.inr (by omega)))).trans (show gV τ454 23 0 188 = (gV τ 23 0 188) from (f456.1 23 0 (188) (by decide) (by decide)).trans (show gV τ430 23 0 188 = (gV τ 23 0 188) from (gV_putn eτ430 (Or.inr (Or.inr (by omega)))).trans (show gV τ272 23 0 188 = (gV τ 23 0 188) from (f274.1 23 0 (188) (by decide) (by decide)).trans (show gV τ249 23 0 188 = (gV τ 23 0 188) from (gV_putn eτ249 (Or.inr (Or.inr (by omega)))).trans (show gV τ71 23 0 188 = (gV τ 23 0 188) from (f73.1 23 0 (188) (by decide) (by decide)).trans (show gV τ51 23 0 188 = (gV τ 23 0 188) from (gV_putn eτ51 (Or.inr (Or.inr (by omega)))).trans (show gV τ31 23 0 188 = (gV τ 23 0 188) from (f33.1 23 0 (188) (by decide) (by decide)).trans rfl))))))))))))
                    have q573 : (gV τ560 23 0 152).toInt = x543.toInt := congrArg Int32.toInt (show (gV τ560 23 0 152) = x543 from (show gV τ560 23 0 152 = x543 from (f562.1 23 0 (152) (by decide) (by decide)).trans (show gV τ545 23 0 152 = x543 from gV_put eτ545 (gV_self _ _ _ _ _))))
                    rcases h566 with ⟨h566_0, h566_1, h566_2, h566_3⟩ | ⟨h566_0, h566_1, h566_2, h566_3, h566_4⟩ | ⟨h566_0, h566_1, h566_2, h566_3, h566_4, h566_5⟩
                    · skip
                      have v574 : CQ (gV σ 23 0 152).toInt.toNat τ560 := v550.call (fun q => by omega) (fun k => f562.1 23 0 k (by simp) (by decide))
                      show MW p l e _ s m args below meth c _ 4 G 0 0 192 [some (.ref (G.1 22 0)), some (.int y1), some (.int z0), some (.int x457)] [] τ560
                      exact m_vret C hr hlk (by decide) (by decide) dX12_takePerson_192 ⟨rfl, i561, g565, (by have qd := per_7 T N st cc i (by omega) (by omega) (by omega) (by omega) (by omega) (by omega) (by omega) (by omega); exact Or.inl ⟨by omega, by omega, by omega, by omega, by omega, by omega⟩)⟩
                    · skip
                      exfalso; omega
                    · skip
                      exfalso; omega
                  · exfalso
                    have q : _ := c527
                    simp only [ti_nle, ti_nlt, ti_le, ti_lt, ti_eq, ti_ne, Classical.not_not, kt_99] at q
                    have q1 := b522; have q2 := kc_99; omega
                · skip
                  have v576 : CQ (gV σ 23 0 152).toInt.toNat τ454 := v445.call (fun q => by omega) (fun k => f456.1 23 0 k (by simp) (by decide))
                  have b577 : IV (gV τ454 22 0 16) 0 0 := ⟨by omega, by omega⟩
                  show MW p l e _ s m args below meth c _ 4 G 0 0 139 [some (.ref (G.1 22 0)), some (.int y1), some (.int z0), none] [.int x457] τ454
                  refine m_goto (tgt := 143) C dX12_takePerson_139 (by decide) ?_
                  refine m_istore_n (L1 := [some (.ref (G.1 22 0)), some (.int y1), some (.int z0), some (.int x457)]) C dX12_takePerson_143 rfl (by decide) rfl rfl ?_
                  refine m_aload_n C dX12_takePerson_144 rfl rfl ?_
                  refine g_22_0 C q4_116 dX12_takePerson_145 ?_
                  refine m_sipush (v := 174) C dX12_takePerson_148 (by decide) ?_
                  refine m_iload_n C dX12_takePerson_151 rfl rfl ?_
                  refine m_iadd C dX12_takePerson_152 ?_
                  refine m_topi (fun x578 ex578 => ?_)
                  have tx578 : x578.toInt = 174 + y1.toInt := by rw [ex578, ti_addv kc_174 b_y1 (by decide), kt_174]
                  have b579 : IV x578 174 180 := by rw [ex578]; exact iv_add kc_174 b_y1 (by decide)
                  refine m_iload_n C dX12_takePerson_153 rfl rfl ?_
                  refine m_bipush (v := 99) C dX12_takePerson_154 (by decide) ?_
                  refine m_icmp_ne (tgt := 163) C dX12_takePerson_156 (by decide) (fun c580 => ?_) (fun c580 => ?_)
                  · have f581 : x457.toInt ≠ 99 := by
                      have q : _ := c580
                      simp only [ti_nle, ti_nlt, ti_le, ti_lt, ti_eq, ti_ne, Classical.not_not, kt_99] at q
                      omega
                    refine m_iload_n C dX12_takePerson_163 rfl rfl ?_
                    refine as_23 C b579 (by decide) rfl dX12_takePerson_164 ?_
                    refine m_tops (fun τ582 eτ582 => ?_)
                    have i583 : Inv τ582 := eτ582 ▸ Inv.putRo i455 (by omega)
                    have f584 : Fr MS_X12_takePersonE AS_X12_takePersonE σ τ582 := eτ582 ▸ Fr.put (g459) (Or.inr (by decide))
                    have v585 : CP (gV σ 23 0 152).toInt τ582 := v461.put eτ582 (Or.inr (fun q hq => by omega))
                    have v586 : TpM τ582 T N := v462.put eτ582 (Or.inl (by decide)) (by decide)
                    have v587 : CQ (gV σ 23 0 152).toInt.toNat τ582 := v576.put eτ582 (Or.inl (by decide)) (Or.inr (by omega))
                    have v588 : LW T N (tE T N (tE T N (tE T N (tE T N (tE T N i))))) τ582.2.2.1 := by rw [eτ582]; exact h460_6
                    refine m_aload_n C dX12_takePerson_165 rfl rfl ?_
                    refine g_22_0 C q4_116 dX12_takePerson_166 ?_
                    refine m_sipush (v := 181) C dX12_takePerson_169 (by decide) ?_
                    refine m_iload_n C dX12_takePerson_172 rfl rfl ?_
                    refine m_iadd C dX12_takePerson_173 ?_
                    refine m_topi (fun x589 ex589 => ?_)
                    have tx589 : x589.toInt = 181 + y1.toInt := by rw [ex589, ti_addv kc_181 b_y1 (by decide), kt_181]
                    have b590 : IV x589 181 187 := by rw [ex589]; exact iv_add kc_181 b_y1 (by decide)
                    refine m_iconst (v := 0) C dX12_takePerson_174 (by decide) ?_
                    refine as_23 C b590 (by decide) rfl dX12_takePerson_175 ?_
                    refine m_tops (fun τ591 eτ591 => ?_)
                    have i592 : Inv τ591 := eτ591 ▸ Inv.putR0 i583 (by omega) kt_0
                    have f593 : Fr MS_X12_takePersonE AS_X12_takePersonE σ τ591 := eτ591 ▸ Fr.put (f584) (Or.inr (by decide))
                    have v594 : CP (gV σ 23 0 152).toInt τ591 := v585.put eτ591 (Or.inr (fun q hq => by omega))
                    have v595 : TpM τ591 T N := v586.put eτ591 (Or.inl (by decide)) (by decide)
                    have v596 : CQ (gV σ 23 0 152).toInt.toNat τ591 := v587.put eτ591 (Or.inl (by decide)) (Or.inr (by omega))
                    have v597 : LW T N (tE T N (tE T N (tE T N (tE T N (tE T N i))))) τ591.2.2.1 := by rw [eτ591]; exact v588
                    refine m_aload_n C dX12_takePerson_176 rfl rfl ?_
                    refine g_22_0 C q4_116 dX12_takePerson_177 ?_
                    refine m_sipush (v := 152) C dX12_takePerson_180 (by decide) ?_
                    refine m_dup2 C dX12_takePerson_183 rfl rfl ?_
                    refine al_23 C kc_152 (by decide) kn_152 dX12_takePerson_184 ?_
                    refine m_eqs (w := (gV τ 23 0 152)) (show gV τ591 23 0 152 = (gV τ 23 0 152) from (gV_putn eτ591 (Or.inr (Or.inr (by omega)))).trans (show gV τ582 23 0 152 = (gV τ 23 0 152) from (gV_putn eτ582 (Or.inr (Or.inr (by omega)))).trans (show gV τ454 23 0 152 = (gV τ 23 0 152) from (f456.1 23 0 (152) (by decide) (by decide)).trans (show gV τ430 23 0 152 = (gV τ 23 0 152) from (gV_putn eτ430 (Or.inr (Or.inr (by omega)))).trans (show gV τ272 23 0 152 = (gV τ 23 0 152) from (f274.1 23 0 (152) (by decide) (by decide)).trans (show gV τ249 23 0 152 = (gV τ 23 0 152) from (gV_putn eτ249 (Or.inr (Or.inr (by omega)))).trans (show gV τ71 23 0 152 = (gV τ 23 0 152) from (f73.1 23 0 (152) (by decide) (by decide)).trans (show gV τ51 23 0 152 = (gV τ 23 0 152) from (gV_putn eτ51 (Or.inr (Or.inr (by omega)))).trans (show gV τ31 23 0 152 = (gV τ 23 0 152) from (f33.1 23 0 (152) (by decide) (by decide)).trans rfl))))))))) ?_
                    refine m_iconst (v := 1) C dX12_takePerson_185 (by decide) ?_
                    refine m_iadd C dX12_takePerson_186 ?_
                    refine m_topi (fun x598 ex598 => ?_)
                    have tx598 : x598.toInt = (gV τ 23 0 152).toInt + 1 := by rw [ex598, ti_addv u3 kc_1 (by decide), kt_1]
                    have b599 : IV x598 1 8 := by rw [ex598]; exact iv_add u3 kc_1 (by decide)
                    refine as_23 C kc_152 (by decide) kn_152 dX12_takePerson_187 ?_
                    refine m_tops (fun τ600 eτ600 => ?_)
                    have i601 : Inv τ600 := eτ600 ▸ Inv.putR i592 (by decide) (iv_wk b599 (by decide))
                    have f602 : Fr MS_X12_takePersonE AS_X12_takePersonE σ τ600 := eτ600 ▸ Fr.put (f593) (Or.inr (by decide))
                    have v603 : CP (gV σ 23 0 152).toInt τ600 := v594.put eτ600 (Or.inr (fun q hq => by omega))
                    have v604 : TpM τ600 T N := v595.put eτ600 (Or.inl (by decide)) (by decide)
                    have v605 : CQ (gV σ 23 0 152).toInt.toNat τ600 := v596.put eτ600 (Or.inl (by decide)) (Or.inr (by omega))
                    have v606 : LW T N (tE T N (tE T N (tE T N (tE T N (tE T N i))))) τ600.2.2.1 := by rw [eτ600]; exact v597
                    refine m_aload_n C dX12_takePerson_188 rfl rfl ?_
                    have q607 : (gV τ600 22 0 6).toInt = (gV τ 22 0 6).toInt := congrArg Int32.toInt (show (gV τ600 22 0 6) = (gV τ 22 0 6) from (show gV τ600 22 0 6 = (gV τ 22 0 6) from gV_put eτ600 (show gV τ591 22 0 6 = (gV τ 22 0 6) from gV_put eτ591 (show gV τ582 22 0 6 = (gV τ 22 0 6) from gV_put eτ582 (show gV τ454 22 0 6 = (gV τ 22 0 6) from (f456.1 22 0 (6) (by decide) (by decide)).trans (show gV τ430 22 0 6 = (gV τ 22 0 6) from gV_put eτ430 (show gV τ272 22 0 6 = (gV τ 22 0 6) from (f274.1 22 0 (6) (by decide) (by decide)).trans (show gV τ249 22 0 6 = (gV τ 22 0 6) from gV_put eτ249 (show gV τ71 22 0 6 = (gV τ 22 0 6) from (f73.1 22 0 (6) (by decide) (by decide)).trans (show gV τ51 22 0 6 = (gV τ 22 0 6) from gV_put eτ51 (show gV τ31 22 0 6 = (gV τ 22 0 6) from (f33.1 22 0 (6) (by decide) (by decide)).trans rfl)))))))))))
                    have q608 : (gV τ600 23 0 150).toInt = (gV τ 23 0 150).toInt := congrArg Int32.toInt (show (gV τ600 23 0 150) = (gV τ 23 0 150) from (show gV τ600 23 0 150 = (gV τ 23 0 150) from gV_put eτ600 (show gV τ591 23 0 150 = (gV τ 23 0 150) from (gV_putn eτ591 (Or.inr (Or.inr (by omega)))).trans (show gV τ582 23 0 150 = (gV τ 23 0 150) from (gV_putn eτ582 (Or.inr (Or.inr (by omega)))).trans (show gV τ454 23 0 150 = (gV τ 23 0 150) from (f456.1 23 0 (150) (by decide) (by decide)).trans (show gV τ430 23 0 150 = (gV τ 23 0 150) from (gV_putn eτ430 (Or.inr (Or.inr (by omega)))).trans (show gV τ272 23 0 150 = (gV τ 23 0 150) from (f274.1 23 0 (150) (by decide) (by decide)).trans (show gV τ249 23 0 150 = (gV τ 23 0 150) from (gV_putn eτ249 (Or.inr (Or.inr (by omega)))).trans (show gV τ71 23 0 150 = (gV τ 23 0 150) from (f73.1 23 0 (150) (by decide) (by decide)).trans (show gV τ51 23 0 150 = (gV τ 23 0 150) from (gV_putn eτ51 (Or.inr (Or.inr (by omega)))).trans (show gV τ31 23 0 150 = (gV τ 23 0 150) from (f33.1 23 0 (150) (by decide) (by decide)).trans rfl)))))))))))
                    have q609 : (gV τ600 23 0 188).toInt = (gV τ 23 0 188).toInt := congrArg Int32.toInt (show (gV τ600 23 0 188) = (gV τ 23 0 188) from (show gV τ600 23 0 188 = (gV τ 23 0 188) from gV_put eτ600 (show gV τ591 23 0 188 = (gV τ 23 0 188) from (gV_putn eτ591 (Or.inr (Or.inr (by omega)))).trans (show gV τ582 23 0 188 = (gV τ 23 0 188) from (gV_putn eτ582 (Or.inr (Or.inr (by omega)))).trans (show gV τ454 23 0 188 = (gV τ 23 0 188) from (f456.1 23 0 (188) (by decide) (by decide)).trans (show gV τ430 23 0 188 = (gV τ 23 0 188) from (gV_putn eτ430 (Or.inr (Or.inr (by omega)))).trans (show gV τ272 23 0 188 = (gV τ 23 0 188) from (f274.1 23 0 (188) (by decide) (by decide)).trans (show gV τ249 23 0 188 = (gV τ 23 0 188) from (gV_putn eτ249 (Or.inr (Or.inr (by omega)))).trans (show gV τ71 23 0 188 = (gV τ 23 0 188) from (f73.1 23 0 (188) (by decide) (by decide)).trans (show gV τ51 23 0 188 = (gV τ 23 0 188) from (gV_putn eτ51 (Or.inr (Or.inr (by omega)))).trans (show gV τ31 23 0 188 = (gV τ 23 0 188) from (f33.1 23 0 (188) (by decide) (by decide)).trans rfl)))))))))))
                    have q610 : (gV τ600 22 0 11).toInt = (gV τ454 22 0 11).toInt := congrArg Int32.toInt (show (gV τ600 22 0 11) = (gV τ454 22 0 11) from (show gV τ600 22 0 11 = (gV τ454 22 0 11) from gV_put eτ600 (show gV τ591 22 0 11 = (gV τ454 22 0 11) from gV_put eτ591 (show gV τ582 22 0 11 = (gV τ454 22 0 11) from gV_put eτ582 rfl))))
                    have q611 : (gV τ600 22 0 12).toInt = (gV τ454 22 0 12).toInt := congrArg Int32.toInt (show (gV τ600 22 0 12) = (gV τ454 22 0 12) from (show gV τ600 22 0 12 = (gV τ454 22 0 12) from gV_put eτ600 (show gV τ591 22 0 12 = (gV τ454 22 0 12) from gV_put eτ591 (show gV τ582 22 0 12 = (gV τ454 22 0 12) from gV_put eτ582 rfl))))
                    have q612 : (gV τ600 22 0 13).toInt = (gV τ454 22 0 13).toInt := congrArg Int32.toInt (show (gV τ600 22 0 13) = (gV τ454 22 0 13) from (show gV τ600 22 0 13 = (gV τ454 22 0 13) from gV_put eτ600 (show gV τ591 22 0 13 = (gV τ454 22 0 13) from gV_put eτ591 (show gV τ582 22 0 13 = (gV τ454 22 0 13) from gV_put eτ582 rfl))))
                    have q613 : (gV τ600 22 0 15).toInt = (gV τ454 22 0 15).toInt := congrArg Int32.toInt (show (gV τ600 22 0 15) = (gV τ454 22 0 15) from (show gV τ600 22 0 15 = (gV τ454 22 0 15) from gV_put eτ600 (show gV τ591 22 0 15 = (gV τ454 22 0 15) from gV_put eτ591 (show gV τ582 22 0 15 = (gV τ454 22 0 15) from gV_put eτ582 rfl))))
                    have q614 : (gV τ600 22 0 16).toInt = (gV τ454 22 0 16).toInt := congrArg Int32.toInt (show (gV τ600 22 0 16) = (gV τ454 22 0 16) from (show gV τ600 22 0 16 = (gV τ454 22 0 16) from gV_put eτ600 (show gV τ591 22 0 16 = (gV τ454 22 0 16) from gV_put eτ591 (show gV τ582 22 0 16 = (gV τ454 22 0 16) from gV_put eτ582 rfl))))
                    have q615 : (gV τ600 23 0 152).toInt = x598.toInt := congrArg Int32.toInt (show (gV τ600 23 0 152) = x598 from (show gV τ600 23 0 152 = x598 from gV_put eτ600 (gV_self _ _ _ _ _)))
                    refine m_callV (n := 0) (ci := 11) (st := []) C (c_X12_takeSignE l G τ600 T N (tE T N (tE T N (tE T N (tE T N (tE T N i)))))  i601 v604 (by omega) (by omega)) (by decide) (by decide) rfl rfl rfl q5_15 q5_12 q5_14 q0_32 q1_7 (by decide +kernel) rfl (by decide) (by decide) rfl (Nat.le_of_ble_eq_true rfl) dX12_takePerson_189 ?_
                    rintro _ τ616 ⟨rfl, i617, f618, h622⟩
                    have g621 : Fr MS_X12_takePersonE AS_X12_takePersonE σ τ616 := Fr.call (f602) f618 (by decide)
                    clear h460_4
                    have v623 : CP (gV σ 23 0 152).toInt τ616 := v603.call (fun k => f618.1 23 0 k (by simp) (by decide))
                    have v624 : TpM τ616 T N := v604.fr f618 (by decide) (by decide) (by simp) (by decide)
                    have u625 : IV (gV τ616 22 0 11) 0 400 := i617.1 22 0 11
                    have q626 : (gV τ616 22 0 6).toInt = (gV τ 22 0 6).toInt := congrArg Int32.toInt (show (gV τ616 22 0 6) = (gV τ 22 0 6) from (show gV τ616 22 0 6 = (gV τ 22 0 6) from (f618.1 22 0 (6) (by decide) (by decide)).trans (show gV τ600 22 0 6 = (gV τ 22 0 6) from gV_put eτ600 (show gV τ591 22 0 6 = (gV τ 22 0 6) from gV_put eτ591 (show gV τ582 22 0 6 = (gV τ 22 0 6) from gV_put eτ582 (show gV τ454 22 0 6 = (gV τ 22 0 6) from (f456.1 22 0 (6) (by decide) (by decide)).trans (show gV τ430 22 0 6 = (gV τ 22 0 6) from gV_put eτ430 (show gV τ272 22 0 6 = (gV τ 22 0 6) from (f274.1 22 0 (6) (by decide) (by decide)).trans (show gV τ249 22 0 6 = (gV τ 22 0 6) from gV_put eτ249 (show gV τ71 22 0 6 = (gV τ 22 0 6) from (f73.1 22 0 (6) (by decide) (by decide)).trans (show gV τ51 22 0 6 = (gV τ 22 0 6) from gV_put eτ51 (show gV τ31 22 0 6 = (gV τ 22 0 6) from (f33.1 22 0 (6) (by decide) (by decide)).trans rfl))))))))))))
                    have q627 : (gV τ616 23 0 150).toInt = (gV τ 23 0 150).toInt := congrArg Int32.toInt (show (gV τ616 23 0 150) = (gV τ 23 0 150) from (show gV τ616 23 0 150 = (gV τ 23 0 150) from (f618.1 23 0 (150) (by decide) (by decide)).trans (show gV τ600 23 0 150 = (gV τ 23 0 150) from gV_put eτ600 (show gV τ591 23 0 150 = (gV τ 23 0 150) from (gV_putn eτ591 (Or.inr (Or.inr (by omega)))).trans (show gV τ582 23 0 150 = (gV τ 23 0 150) from (gV_putn eτ582 (Or.inr (Or.inr (by omega)))).trans (show gV τ454 23 0 150 = (gV τ 23 0 150) from (f456.1 23 0 (150) (by decide) (by decide)).trans (show gV τ430 23 0 150 = (gV τ 23 0 150) from (gV_putn eτ430 (Or.inr (Or.inr (by omega)))).trans (show gV τ272 23 0 150 = (gV τ 23 0 150) from (f274.1 23 0 (150) (by decide) (by decide)).trans (show gV τ249 23 0 150 = (gV τ 23 0 150) from (gV_putn eτ249 (Or.inr (Or.inr (by omega)))).trans (show gV τ71 23 0 150 = (gV τ 23 0 150) from (f73.1 23 0 (150) (by decide) (by decide)).trans (show gV τ51 23 0 150 = (gV τ 23 0 150) from (gV_putn eτ51 (Or.inr (Or.inr (by omega)))).trans (show gV τ31 23 0 150 = (gV τ 23 0 150) from (f33.1 23 0 (150) (by decide) (by decide)).trans rfl))))))))))))
                    have q628 : (gV τ616 23 0 188).toInt = (gV τ 23 0 188).toInt := congrArg Int32.toInt (show (gV τ616 23 0 188) = (gV τ 23 0 188) from (show gV τ616 23 0 188 = (gV τ 23 0 188) from (f618.1 23 0 (188) (by decide) (by decide)).trans (show gV τ600 23 0 188 = (gV τ 23 0 188) from gV_put eτ600 (show gV τ591 23 0 188 = (gV τ 23 0 188) from (gV_putn eτ591 (Or.inr (Or.inr (by omega)))).trans (show gV τ582 23 0 188 = (gV τ 23 0 188) from (gV_putn eτ582 (Or.inr (Or.inr (by omega)))).trans (show gV τ454 23 0 188 = (gV τ 23 0 188) from (f456.1 23 0 (188) (by decide) (by decide)).trans (show gV τ430 23 0 188 = (gV τ 23 0 188) from (gV_putn eτ430 (Or.inr (Or.inr (by omega)))).trans (show gV τ272 23 0 188 = (gV τ 23 0 188) from (f274.1 23 0 (188) (by decide) (by decide)).trans (show gV τ249 23 0 188 = (gV τ 23 0 188) from (gV_putn eτ249 (Or.inr (Or.inr (by omega)))).trans (show gV τ71 23 0 188 = (gV τ 23 0 188) from (f73.1 23 0 (188) (by decide) (by decide)).trans (show gV τ51 23 0 188 = (gV τ 23 0 188) from (gV_putn eτ51 (Or.inr (Or.inr (by omega)))).trans (show gV τ31 23 0 188 = (gV τ 23 0 188) from (f33.1 23 0 (188) (by decide) (by decide)).trans rfl))))))))))))
                    have q629 : (gV τ616 23 0 152).toInt = x598.toInt := congrArg Int32.toInt (show (gV τ616 23 0 152) = x598 from (show gV τ616 23 0 152 = x598 from (f618.1 23 0 (152) (by decide) (by decide)).trans (show gV τ600 23 0 152 = x598 from gV_put eτ600 (gV_self _ _ _ _ _))))
                    rcases h622 with ⟨h622_0, h622_1, h622_2, h622_3⟩ | ⟨h622_0, h622_1, h622_2, h622_3, h622_4⟩ | ⟨h622_0, h622_1, h622_2, h622_3, h622_4, h622_5⟩
                    · skip
                      exfalso; omega
                    · skip
                      have v630 : CQ (gV σ 23 0 152).toInt.toNat τ616 := v605.call (fun q => by omega) (fun k => f618.1 23 0 k (by simp) (by decide))
                      have b631 : IV (gV τ616 22 0 16) 1 1 := ⟨by omega, by omega⟩
                      show MW p l e _ s m args below meth c _ 4 G 0 0 192 [some (.ref (G.1 22 0)), some (.int y1), some (.int z0), some (.int x457)] [] τ616
                      exact m_vret C hr hlk (by decide) (by decide) dX12_takePerson_192 ⟨rfl, i617, g621, (by have qd := per_8 T N st cc i (by omega) (by omega) (by omega) (by omega) (by omega) (by omega) (by omega) (by omega) (by omega); exact Or.inl ⟨by omega, by omega, by omega, by omega, by omega, by omega⟩)⟩
                    · skip
                      have v632 : CQ (gV σ 23 0 152).toInt.toNat τ616 := v605.call (fun q => by omega) (fun k => f618.1 23 0 k (by simp) (by decide))
                      have b633 : IV (gV τ616 22 0 16) 0 0 := ⟨by omega, by omega⟩
                      show MW p l e _ s m args below meth c _ 4 G 0 0 192 [some (.ref (G.1 22 0)), some (.int y1), some (.int z0), some (.int x457)] [] τ616
                      exact m_vret C hr hlk (by decide) (by decide) dX12_takePerson_192 ⟨rfl, i617, g621, (by have qd := per_ok T N st cc i (by omega) (by omega) (by omega) (by omega) (by omega) (by omega) (by omega) (by omega) (by omega); exact Or.inr ⟨by omega, by omega, by omega, by omega, by omega, by omega, Pb.mk (by omega) v623 (v632 (by omega)) (by omega), h622_5⟩)⟩
                  · have f634 : x457.toInt = 99 := by
                      have q : _ := c580
                      simp only [ti_nle, ti_nlt, ti_le, ti_lt, ti_eq, ti_ne, Classical.not_not, kt_99] at q
                      omega
                    have b635 : IV x457 99 99 := ⟨by have q1 := b458; have q2 := kc_99; omega, by have q1 := b458; have q2 := kc_99; omega⟩
                    refine m_iconst (v := (-1)) C dX12_takePerson_159 (by decide) ?_
                    refine m_goto (tgt := 164) C dX12_takePerson_160 (by decide) ?_
                    refine as_23 C b579 (by decide) rfl dX12_takePerson_164 ?_
                    refine m_tops (fun τ636 eτ636 => ?_)
                    have i637 : Inv τ636 := eτ636 ▸ Inv.putRo i455 (by omega)
                    have f638 : Fr MS_X12_takePersonE AS_X12_takePersonE σ τ636 := eτ636 ▸ Fr.put (g459) (Or.inr (by decide))
                    have v639 : CP (gV σ 23 0 152).toInt τ636 := v461.put eτ636 (Or.inr (fun q hq => by omega))
                    have v640 : TpM τ636 T N := v462.put eτ636 (Or.inl (by decide)) (by decide)
                    have v641 : CQ (gV σ 23 0 152).toInt.toNat τ636 := v576.put eτ636 (Or.inl (by decide)) (Or.inr (by omega))
                    have v642 : LW T N (tE T N (tE T N (tE T N (tE T N (tE T N i))))) τ636.2.2.1 := by rw [eτ636]; exact h460_6
                    refine m_aload_n C dX12_takePerson_165 rfl rfl ?_
                    refine g_22_0 C q4_116 dX12_takePerson_166 ?_
                    refine m_sipush (v := 181) C dX12_takePerson_169 (by decide) ?_
                    refine m_iload_n C dX12_takePerson_172 rfl rfl ?_
                    refine m_iadd C dX12_takePerson_173 ?_
                    refine m_topi (fun x643 ex643 => ?_)
                    have tx643 : x643.toInt = 181 + y1.toInt := by rw [ex643, ti_addv kc_181 b_y1 (by decide), kt_181]
                    have b644 : IV x643 181 187 := by rw [ex643]; exact iv_add kc_181 b_y1 (by decide)
                    refine m_iconst (v := 0) C dX12_takePerson_174 (by decide) ?_
                    refine as_23 C b644 (by decide) rfl dX12_takePerson_175 ?_
                    refine m_tops (fun τ645 eτ645 => ?_)
                    have i646 : Inv τ645 := eτ645 ▸ Inv.putR0 i637 (by omega) kt_0
                    have f647 : Fr MS_X12_takePersonE AS_X12_takePersonE σ τ645 := eτ645 ▸ Fr.put (f638) (Or.inr (by decide))
                    have v648 : CP (gV σ 23 0 152).toInt τ645 := v639.put eτ645 (Or.inr (fun q hq => by omega))
                    have v649 : TpM τ645 T N := v640.put eτ645 (Or.inl (by decide)) (by decide)
                    have v650 : CQ (gV σ 23 0 152).toInt.toNat τ645 := v641.put eτ645 (Or.inl (by decide)) (Or.inr (by omega))
                    have v651 : LW T N (tE T N (tE T N (tE T N (tE T N (tE T N i))))) τ645.2.2.1 := by rw [eτ645]; exact v642
                    refine m_aload_n C dX12_takePerson_176 rfl rfl ?_
                    refine g_22_0 C q4_116 dX12_takePerson_177 ?_
                    refine m_sipush (v := 152) C dX12_takePerson_180 (by decide) ?_
                    refine m_dup2 C dX12_takePerson_183 rfl rfl ?_
                    refine al_23 C kc_152 (by decide) kn_152 dX12_takePerson_184 ?_
                    refine m_eqs (w := (gV τ 23 0 152)) (show gV τ645 23 0 152 = (gV τ 23 0 152) from (gV_putn eτ645 (Or.inr (Or.inr (by omega)))).trans (show gV τ636 23 0 152 = (gV τ 23 0 152) from (gV_putn eτ636 (Or.inr (Or.inr (by omega)))).trans (show gV τ454 23 0 152 = (gV τ 23 0 152) from (f456.1 23 0 (152) (by decide) (by decide)).trans (show gV τ430 23 0 152 = (gV τ 23 0 152) from (gV_putn eτ430 (Or.inr (Or.inr (by omega)))).trans (show gV τ272 23 0 152 = (gV τ 23 0 152) from (f274.1 23 0 (152) (by decide) (by decide)).trans (show gV τ249 23 0 152 = (gV τ 23 0 152) from (gV_putn eτ249 (Or.inr (Or.inr (by omega)))).trans (show gV τ71 23 0 152 = (gV τ 23 0 152) from (f73.1 23 0 (152) (by decide) (by decide)).trans (show gV τ51 23 0 152 = (gV τ 23 0 152) from (gV_putn eτ51 (Or.inr (Or.inr (by omega)))).trans (show gV τ31 23 0 152 = (gV τ 23 0 152) from (f33.1 23 0 (152) (by decide) (by decide)).trans rfl))))))))) ?_
                    refine m_iconst (v := 1) C dX12_takePerson_185 (by decide) ?_
                    refine m_iadd C dX12_takePerson_186 ?_
                    refine m_topi (fun x652 ex652 => ?_)
                    have tx652 : x652.toInt = (gV τ 23 0 152).toInt + 1 := by rw [ex652, ti_addv u3 kc_1 (by decide), kt_1]
                    have b653 : IV x652 1 8 := by rw [ex652]; exact iv_add u3 kc_1 (by decide)
                    refine as_23 C kc_152 (by decide) kn_152 dX12_takePerson_187 ?_
                    refine m_tops (fun τ654 eτ654 => ?_)
                    have i655 : Inv τ654 := eτ654 ▸ Inv.putR i646 (by decide) (iv_wk b653 (by decide))
                    have f656 : Fr MS_X12_takePersonE AS_X12_takePersonE σ τ654 := eτ654 ▸ Fr.put (f647) (Or.inr (by decide))
                    have v657 : CP (gV σ 23 0 152).toInt τ654 := v648.put eτ654 (Or.inr (fun q hq => by omega))
                    have v658 : TpM τ654 T N := v649.put eτ654 (Or.inl (by decide)) (by decide)
                    have v659 : CQ (gV σ 23 0 152).toInt.toNat τ654 := v650.put eτ654 (Or.inl (by decide)) (Or.inr (by omega))
                    have v660 : LW T N (tE T N (tE T N (tE T N (tE T N (tE T N i))))) τ654.2.2.1 := by rw [eτ654]; exact v651
                    refine m_aload_n C dX12_takePerson_188 rfl rfl ?_
                    have q661 : (gV τ654 22 0 6).toInt = (gV τ 22 0 6).toInt := congrArg Int32.toInt (show (gV τ654 22 0 6) = (gV τ 22 0 6) from (show gV τ654 22 0 6 = (gV τ 22 0 6) from gV_put eτ654 (show gV τ645 22 0 6 = (gV τ 22 0 6) from gV_put eτ645 (show gV τ636 22 0 6 = (gV τ 22 0 6) from gV_put eτ636 (show gV τ454 22 0 6 = (gV τ 22 0 6) from (f456.1 22 0 (6) (by decide) (by decide)).trans (show gV τ430 22 0 6 = (gV τ 22 0 6) from gV_put eτ430 (show gV τ272 22 0 6 = (gV τ 22 0 6) from (f274.1 22 0 (6) (by decide) (by decide)).trans (show gV τ249 22 0 6 = (gV τ 22 0 6) from gV_put eτ249 (show gV τ71 22 0 6 = (gV τ 22 0 6) from (f73.1 22 0 (6) (by decide) (by decide)).trans (show gV τ51 22 0 6 = (gV τ 22 0 6) from gV_put eτ51 (show gV τ31 22 0 6 = (gV τ 22 0 6) from (f33.1 22 0 (6) (by decide) (by decide)).trans rfl)))))))))))
                    have q662 : (gV τ654 23 0 150).toInt = (gV τ 23 0 150).toInt := congrArg Int32.toInt (show (gV τ654 23 0 150) = (gV τ 23 0 150) from (show gV τ654 23 0 150 = (gV τ 23 0 150) from gV_put eτ654 (show gV τ645 23 0 150 = (gV τ 23 0 150) from (gV_putn eτ645 (Or.inr (Or.inr (by omega)))).trans (show gV τ636 23 0 150 = (gV τ 23 0 150) from (gV_putn eτ636 (Or.inr (Or.inr (by omega)))).trans (show gV τ454 23 0 150 = (gV τ 23 0 150) from (f456.1 23 0 (150) (by decide) (by decide)).trans (show gV τ430 23 0 150 = (gV τ 23 0 150) from (gV_putn eτ430 (Or.inr (Or.inr (by omega)))).trans (show gV τ272 23 0 150 = (gV τ 23 0 150) from (f274.1 23 0 (150) (by decide) (by decide)).trans (show gV τ249 23 0 150 = (gV τ 23 0 150) from (gV_putn eτ249 (Or.inr (Or.inr (by omega)))).trans (show gV τ71 23 0 150 = (gV τ 23 0 150) from (f73.1 23 0 (150) (by decide) (by decide)).trans (show gV τ51 23 0 150 = (gV τ 23 0 150) from (gV_putn eτ51 (Or.inr (Or.inr (by omega)))).trans (show gV τ31 23 0 150 = (gV τ 23 0 150) from (f33.1 23 0 (150) (by decide) (by decide)).trans rfl)))))))))))
                    have q663 : (gV τ654 23 0 188).toInt = (gV τ 23 0 188).toInt := congrArg Int32.toInt (show (gV τ654 23 0 188) = (gV τ 23 0 188) from (show gV τ654 23 0 188 = (gV τ 23 0 188) from gV_put eτ654 (show gV τ645 23 0 188 = (gV τ 23 0 188) from (gV_putn eτ645 (Or.inr (Or.inr (by omega)))).trans (show gV τ636 23 0 188 = (gV τ 23 0 188) from (gV_putn eτ636 (Or.inr (Or.inr (by omega)))).trans (show gV τ454 23 0 188 = (gV τ 23 0 188) from (f456.1 23 0 (188) (by decide) (by decide)).trans (show gV τ430 23 0 188 = (gV τ 23 0 188) from (gV_putn eτ430 (Or.inr (Or.inr (by omega)))).trans (show gV τ272 23 0 188 = (gV τ 23 0 188) from (f274.1 23 0 (188) (by decide) (by decide)).trans (show gV τ249 23 0 188 = (gV τ 23 0 188) from (gV_putn eτ249 (Or.inr (Or.inr (by omega)))).trans (show gV τ71 23 0 188 = (gV τ 23 0 188) from (f73.1 23 0 (188) (by decide) (by decide)).trans (show gV τ51 23 0 188 = (gV τ 23 0 188) from (gV_putn eτ51 (Or.inr (Or.inr (by omega)))).trans (show gV τ31 23 0 188 = (gV τ 23 0 188) from (f33.1 23 0 (188) (by decide) (by decide)).trans rfl)))))))))))
                    have q664 : (gV τ654 22 0 11).toInt = (gV τ454 22 0 11).toInt := congrArg Int32.toInt (show (gV τ654 22 0 11) = (gV τ454 22 0 11) from (show gV τ654 22 0 11 = (gV τ454 22 0 11) from gV_put eτ654 (show gV τ645 22 0 11 = (gV τ454 22 0 11) from gV_put eτ645 (show gV τ636 22 0 11 = (gV τ454 22 0 11) from gV_put eτ636 rfl))))
                    have q665 : (gV τ654 22 0 12).toInt = (gV τ454 22 0 12).toInt := congrArg Int32.toInt (show (gV τ654 22 0 12) = (gV τ454 22 0 12) from (show gV τ654 22 0 12 = (gV τ454 22 0 12) from gV_put eτ654 (show gV τ645 22 0 12 = (gV τ454 22 0 12) from gV_put eτ645 (show gV τ636 22 0 12 = (gV τ454 22 0 12) from gV_put eτ636 rfl))))
                    have q666 : (gV τ654 22 0 13).toInt = (gV τ454 22 0 13).toInt := congrArg Int32.toInt (show (gV τ654 22 0 13) = (gV τ454 22 0 13) from (show gV τ654 22 0 13 = (gV τ454 22 0 13) from gV_put eτ654 (show gV τ645 22 0 13 = (gV τ454 22 0 13) from gV_put eτ645 (show gV τ636 22 0 13 = (gV τ454 22 0 13) from gV_put eτ636 rfl))))
                    have q667 : (gV τ654 22 0 15).toInt = (gV τ454 22 0 15).toInt := congrArg Int32.toInt (show (gV τ654 22 0 15) = (gV τ454 22 0 15) from (show gV τ654 22 0 15 = (gV τ454 22 0 15) from gV_put eτ654 (show gV τ645 22 0 15 = (gV τ454 22 0 15) from gV_put eτ645 (show gV τ636 22 0 15 = (gV τ454 22 0 15) from gV_put eτ636 rfl))))
                    have q668 : (gV τ654 22 0 16).toInt = (gV τ454 22 0 16).toInt := congrArg Int32.toInt (show (gV τ654 22 0 16) = (gV τ454 22 0 16) from (show gV τ654 22 0 16 = (gV τ454 22 0 16) from gV_put eτ654 (show gV τ645 22 0 16 = (gV τ454 22 0 16) from gV_put eτ645 (show gV τ636 22 0 16 = (gV τ454 22 0 16) from gV_put eτ636 rfl))))
                    have q669 : (gV τ654 23 0 152).toInt = x652.toInt := congrArg Int32.toInt (show (gV τ654 23 0 152) = x652 from (show gV τ654 23 0 152 = x652 from gV_put eτ654 (gV_self _ _ _ _ _)))
                    refine m_callV (n := 0) (ci := 11) (st := []) C (c_X12_takeSignE l G τ654 T N (tE T N (tE T N (tE T N (tE T N (tE T N i)))))  i655 v658 (by omega) (by omega)) (by decide) (by decide) rfl rfl rfl q5_15 q5_12 q5_14 q0_32 q1_7 (by decide +kernel) rfl (by decide) (by decide) rfl (Nat.le_of_ble_eq_true rfl) dX12_takePerson_189 ?_
                    rintro _ τ670 ⟨rfl, i671, f672, h676⟩
                    have g675 : Fr MS_X12_takePersonE AS_X12_takePersonE σ τ670 := Fr.call (f656) f672 (by decide)
                    clear h460_4
                    have v677 : CP (gV σ 23 0 152).toInt τ670 := v657.call (fun k => f672.1 23 0 k (by simp) (by decide))
                    have v678 : TpM τ670 T N := v658.fr f672 (by decide) (by decide) (by simp) (by decide)
                    have u679 : IV (gV τ670 22 0 11) 0 400 := i671.1 22 0 11
                    have q680 : (gV τ670 22 0 6).toInt = (gV τ 22 0 6).toInt := congrArg Int32.toInt (show (gV τ670 22 0 6) = (gV τ 22 0 6) from (show gV τ670 22 0 6 = (gV τ 22 0 6) from (f672.1 22 0 (6) (by decide) (by decide)).trans (show gV τ654 22 0 6 = (gV τ 22 0 6) from gV_put eτ654 (show gV τ645 22 0 6 = (gV τ 22 0 6) from gV_put eτ645 (show gV τ636 22 0 6 = (gV τ 22 0 6) from gV_put eτ636 (show gV τ454 22 0 6 = (gV τ 22 0 6) from (f456.1 22 0 (6) (by decide) (by decide)).trans (show gV τ430 22 0 6 = (gV τ 22 0 6) from gV_put eτ430 (show gV τ272 22 0 6 = (gV τ 22 0 6) from (f274.1 22 0 (6) (by decide) (by decide)).trans (show gV τ249 22 0 6 = (gV τ 22 0 6) from gV_put eτ249 (show gV τ71 22 0 6 = (gV τ 22 0 6) from (f73.1 22 0 (6) (by decide) (by decide)).trans (show gV τ51 22 0 6 = (gV τ 22 0 6) from gV_put eτ51 (show gV τ31 22 0 6 = (gV τ 22 0 6) from (f33.1 22 0 (6) (by decide) (by decide)).trans rfl))))))))))))
                    have q681 : (gV τ670 23 0 150).toInt = (gV τ 23 0 150).toInt := congrArg Int32.toInt (show (gV τ670 23 0 150) = (gV τ 23 0 150) from (show gV τ670 23 0 150 = (gV τ 23 0 150) from (f672.1 23 0 (150) (by decide) (by decide)).trans (show gV τ654 23 0 150 = (gV τ 23 0 150) from gV_put eτ654 (show gV τ645 23 0 150 = (gV τ 23 0 150) from (gV_putn eτ645 (Or.inr (Or.inr (by omega)))).trans (show gV τ636 23 0 150 = (gV τ 23 0 150) from (gV_putn eτ636 (Or.inr (Or.inr (by omega)))).trans (show gV τ454 23 0 150 = (gV τ 23 0 150) from (f456.1 23 0 (150) (by decide) (by decide)).trans (show gV τ430 23 0 150 = (gV τ 23 0 150) from (gV_putn eτ430 (Or.inr (Or.inr (by omega)))).trans (show gV τ272 23 0 150 = (gV τ 23 0 150) from (f274.1 23 0 (150) (by decide) (by decide)).trans (show gV τ249 23 0 150 = (gV τ 23 0 150) from (gV_putn eτ249 (Or.inr (Or.inr (by omega)))).trans (show gV τ71 23 0 150 = (gV τ 23 0 150) from (f73.1 23 0 (150) (by decide) (by decide)).trans (show gV τ51 23 0 150 = (gV τ 23 0 150) from (gV_putn eτ51 (Or.inr (Or.inr (by omega)))).trans (show gV τ31 23 0 150 = (gV τ 23 0 150) from (f33.1 23 0 (150) (by decide) (by decide)).trans rfl))))))))))))
                    have q682 : (gV τ670 23 0 188).toInt = (gV τ 23 0 188).toInt := congrArg Int32.toInt (show (gV τ670 23 0 188) = (gV τ 23 0 188) from (show gV τ670 23 0 188 = (gV τ 23 0 188) from (f672.1 23 0 (188) (by decide) (by decide)).trans (show gV τ654 23 0 188 = (gV τ 23 0 188) from gV_put eτ654 (show gV τ645 23 0 188 = (gV τ 23 0 188) from (gV_putn eτ645 (Or.inr (Or.inr (by omega)))).trans (show gV τ636 23 0 188 = (gV τ 23 0 188) from (gV_putn eτ636 (Or.inr (Or.inr (by omega)))).trans (show gV τ454 23 0 188 = (gV τ 23 0 188) from (f456.1 23 0 (188) (by decide) (by decide)).trans (show gV τ430 23 0 188 = (gV τ 23 0 188) from (gV_putn eτ430 (Or.inr (Or.inr (by omega)))).trans (show gV τ272 23 0 188 = (gV τ 23 0 188) from (f274.1 23 0 (188) (by decide) (by decide)).trans (show gV τ249 23 0 188 = (gV τ 23 0 188) from (gV_putn eτ249 (Or.inr (Or.inr (by omega)))).trans (show gV τ71 23 0 188 = (gV τ 23 0 188) from (f73.1 23 0 (188) (by decide) (by decide)).trans (show gV τ51 23 0 188 = (gV τ 23 0 188) from (gV_putn eτ51 (Or.inr (Or.inr (by omega)))).trans (show gV τ31 23 0 188 = (gV τ 23 0 188) from (f33.1 23 0 (188) (by decide) (by decide)).trans rfl))))))))))))
                    have q683 : (gV τ670 23 0 152).toInt = x652.toInt := congrArg Int32.toInt (show (gV τ670 23 0 152) = x652 from (show gV τ670 23 0 152 = x652 from (f672.1 23 0 (152) (by decide) (by decide)).trans (show gV τ654 23 0 152 = x652 from gV_put eτ654 (gV_self _ _ _ _ _))))
                    rcases h676 with ⟨h676_0, h676_1, h676_2, h676_3⟩ | ⟨h676_0, h676_1, h676_2, h676_3, h676_4⟩ | ⟨h676_0, h676_1, h676_2, h676_3, h676_4, h676_5⟩
                    · skip
                      exfalso; omega
                    · skip
                      have v684 : CQ (gV σ 23 0 152).toInt.toNat τ670 := v659.call (fun q => by omega) (fun k => f672.1 23 0 k (by simp) (by decide))
                      have b685 : IV (gV τ670 22 0 16) 1 1 := ⟨by omega, by omega⟩
                      show MW p l e _ s m args below meth c _ 4 G 0 0 192 [some (.ref (G.1 22 0)), some (.int y1), some (.int z0), some (.int x457)] [] τ670
                      exact m_vret C hr hlk (by decide) (by decide) dX12_takePerson_192 ⟨rfl, i671, g675, (by have qd := per_8 T N st cc i (by omega) (by omega) (by omega) (by omega) (by omega) (by omega) (by omega) (by omega) (by omega); exact Or.inl ⟨by omega, by omega, by omega, by omega, by omega, by omega⟩)⟩
                    · skip
                      have v686 : CQ (gV σ 23 0 152).toInt.toNat τ670 := v659.call (fun q => by omega) (fun k => f672.1 23 0 k (by simp) (by decide))
                      have b687 : IV (gV τ670 22 0 16) 0 0 := ⟨by omega, by omega⟩
                      show MW p l e _ s m args below meth c _ 4 G 0 0 192 [some (.ref (G.1 22 0)), some (.int y1), some (.int z0), some (.int x457)] [] τ670
                      exact m_vret C hr hlk (by decide) (by decide) dX12_takePerson_192 ⟨rfl, i671, g675, (by have qd := per_ok T N st cc i (by omega) (by omega) (by omega) (by omega) (by omega) (by omega) (by omega) (by omega) (by omega); exact Or.inr ⟨by omega, by omega, by omega, by omega, by omega, by omega, Pb.mk (by omega) v677 (v686 (by omega)) (by omega), h676_5⟩)⟩
      · exfalso
        have q : _ := c29
        simp only [ti_nle, ti_nlt, ti_le, ti_lt, ti_eq, ti_ne, Classical.not_not, kt_0] at q
        have q1 := b27; have q2 := kc_0; omega
  have u689 : IV (gV σ 22 0 11) 0 400 := hI.1 22 0 11
  have u690 : IV (gV σ 22 0 6) 0 400 := hI.1 22 0 6
  have u691 : IV (gV σ 23 0 152) 0 7 := hI.1 23 0 152
  have u692 : IV (gV σ 23 0 188) 0 4 := hI.1 23 0 188
  have q693 : (gV σ 22 0 6).toInt = (N : Int) := hT.1
  have q694 := hT.2.1
  have b695 : IV (gV σ 22 0 16) 0 0 := ⟨by omega, by omega⟩
  refine m_aload_n C dX12_takePerson_0 rfl rfl ?_
  refine g_22_0 C q4_116 dX12_takePerson_1 ?_
  refine m_sipush (v := 152) C dX12_takePerson_4 (by decide) ?_
  refine al_23 C kc_152 (by decide) kn_152 dX12_takePerson_7 ?_
  refine m_eqs (w := (gV σ 23 0 152)) rfl ?_
  refine m_istore_n (L1 := [some (.ref (G.1 22 0)), some (.int (gV σ 23 0 152)), none, none]) C dX12_takePerson_8 rfl (by decide) rfl rfl ?_
  refine m_iload_n C dX12_takePerson_9 rfl rfl ?_
  refine m_bipush (v := 7) C dX12_takePerson_10 (by decide) ?_
  refine m_icmp_ne (tgt := 21) C dX12_takePerson_12 (by decide) (fun c696 => ?_) (fun c696 => ?_)
  · have f697 : (gV σ 23 0 152).toInt ≠ 7 := by
      have q : _ := c696
      simp only [ti_nle, ti_nlt, ti_le, ti_lt, ti_eq, ti_ne, Classical.not_not, kt_7] at q
      omega
    have b698 : IV (gV σ 23 0 152) 0 6 := ⟨by have q1 := u691; have q2 := kc_7; omega, by have q1 := u691; have q2 := kc_7; omega⟩
    refine m_aload_n C dX12_takePerson_21 rfl rfl ?_
    refine m_callV (n := 0) (ci := 11) (st := []) C (c_X12_nextE l G σ T N (tE T N i)  hI hT (by omega)) (by decide) (by decide) rfl rfl rfl q4_231 q4_228 q4_230 q0_28 q1_7 (by decide +kernel) rfl (by decide) (by decide) rfl (Nat.le_of_ble_eq_true rfl) dX12_takePerson_22 ?_
    rintro _ τ699 ⟨rfl, i700, f701, h705⟩
    have g704 : Fr MS_X12_takePersonE AS_X12_takePersonE σ τ699 := Fr.call (Fr.rf) f701 (by decide)
    clear hcur
    have v706 : CP (gV σ 23 0 152).toInt τ699 := (hPb.cp hI).call (fun k => f701.1 23 0 k (by simp) (by decide))
    have v707 : TpM τ699 T N := hT.fr f701 (by decide) (by decide) (by simp) (by decide)
    obtain ⟨h708, h710, v709⟩ := h705
    have u711 : IV (gV τ699 22 0 11) 0 400 := i700.1 22 0 11
    have q712 : (gV τ699 22 0 16).toInt = (gV σ 22 0 16).toInt := congrArg Int32.toInt (show (gV τ699 22 0 16) = (gV σ 22 0 16) from (show gV τ699 22 0 16 = (gV σ 22 0 16) from (f701.1 22 0 (16) (by decide) (by decide)).trans rfl))
    have q713 : (gV τ699 22 0 6).toInt = (gV σ 22 0 6).toInt := congrArg Int32.toInt (show (gV τ699 22 0 6) = (gV σ 22 0 6) from (show gV τ699 22 0 6 = (gV σ 22 0 6) from (f701.1 22 0 (6) (by decide) (by decide)).trans rfl))
    have q714 : (gV τ699 23 0 150).toInt = (gV σ 23 0 150).toInt := congrArg Int32.toInt (show (gV τ699 23 0 150) = (gV σ 23 0 150) from (show gV τ699 23 0 150 = (gV σ 23 0 150) from (f701.1 23 0 (150) (by decide) (by decide)).trans rfl))
    have q715 : (gV τ699 23 0 152).toInt = (gV σ 23 0 152).toInt := congrArg Int32.toInt (show (gV τ699 23 0 152) = (gV σ 23 0 152) from (show gV τ699 23 0 152 = (gV σ 23 0 152) from (f701.1 23 0 (152) (by decide) (by decide)).trans rfl))
    have q716 : (gV τ699 23 0 188).toInt = (gV σ 23 0 188).toInt := congrArg Int32.toInt (show (gV τ699 23 0 188) = (gV σ 23 0 188) from (show gV τ699 23 0 188 = (gV σ 23 0 188) from (f701.1 23 0 (188) (by decide) (by decide)).trans rfl))
    show MW p l e _ s m args below meth c _ 4 G 0 0 25 [some (.ref (G.1 22 0)), some (.int (gV σ 23 0 152)), none, none] [] τ699
    refine m_aload_n C dX12_takePerson_25 rfl rfl ?_
    refine g_22_13 C q4_129 dX12_takePerson_26 ?_
    refine m_eqs (w := (gV τ699 22 0 13)) rfl ?_
    refine m_if_ne (tgt := 42) C dX12_takePerson_29 (by decide) (fun c717 => ?_) (fun c717 => ?_)
    · have f718 : (gV τ699 22 0 13).toInt ≠ 0 := by
        have q : _ := c717
        simp only [ti_nle, ti_nlt, ti_le, ti_lt, ti_eq, ti_ne, Classical.not_not, kt_0] at q
        omega
      have q719 : tQ T N (tE T N i) = 0 := by have qd := tQ_def T N (tE T N i); omega
      refine m_iconst (v := (-1)) C dX12_takePerson_42 (by decide) ?_
      exact J43 τ699 (gV σ 23 0 152) (-1) i700 g704 b698 (iv_wk kc_m1 (by decide)) v706 v707 ⟨by omega, by omega, by omega, by omega, by omega, by omega, by omega, by omega⟩ (by have q := kt_m1; omega)
    · have f720 : (gV τ699 22 0 13).toInt = 0 := by
        have q : _ := c717
        simp only [ti_nle, ti_nlt, ti_le, ti_lt, ti_eq, ti_ne, Classical.not_not, kt_0] at q
        omega
      have b721 : IV (gV τ699 22 0 13) 0 0 := ⟨by have q1 := (iv_any (gV τ699 22 0 13)); have q2 := kc_0; omega, by have q1 := (iv_any (gV τ699 22 0 13)); have q2 := kc_0; omega⟩
      refine m_aload_n C dX12_takePerson_32 rfl rfl ?_
      refine g_22_14 C q4_130 dX12_takePerson_33 ?_
      refine m_topl (fun w722 ew722 => ?_)
      have q723 : tK T N (tE T N i) = 1 := by omega
      have q724 : (w722.toInt = 17494690093 ↔ tW T N (tE T N i) 2 = 1) := by rw [ew722]; exact LW.at2 v709 q723
      have q725 : (w722.toInt = 24416759 ↔ tW T N (tE T N i) 3 = 1) := by rw [ew722]; exact LW.at3 v709 q723
      have q726 : (w722.toInt = 2553 ↔ tW T N (tE T N i) 4 = 1) := by rw [ew722]; exact LW.at4 v709 q723
      have q727 : (w722.toInt = 441803 ↔ tW T N (tE T N i) 5 = 1) := by rw [ew722]; exact LW.at5 v709 q723
      have q728 : (w722.toInt = 77177328 ↔ tW T N (tE T N i) 6 = 1) := by rw [ew722]; exact LW.at6 v709 q723
      refine m_callS (n := 1) (st := []) C (c_X12_sortOfE l G τ699 (w722) i700 ) q5_23 q5_21 q5_22 q1_7 (by decide +kernel) rfl (by decide) (by decide) rfl (Nat.le_of_ble_eq_true rfl) dX12_takePerson_36 ?_
      rintro _ τ729 ⟨x732, rfl, i730, f731, b733, h735⟩
      have g734 : Fr MS_X12_takePersonE AS_X12_takePersonE σ τ729 := Fr.call (g704) f731 (by decide)
      have v736 : CP (gV σ 23 0 152).toInt τ729 := v706.call (fun k => f731.1 23 0 k (by simp) (by decide))
      have v737 : TpM τ729 T N := v707.fr f731 (by decide) (by decide) (by simp) (by decide)
      have q738 : (gV τ729 22 0 16).toInt = (gV σ 22 0 16).toInt := congrArg Int32.toInt (show (gV τ729 22 0 16) = (gV σ 22 0 16) from (show gV τ729 22 0 16 = (gV σ 22 0 16) from (f731.1 22 0 (16) (by decide) (by decide)).trans (show gV τ699 22 0 16 = (gV σ 22 0 16) from (f701.1 22 0 (16) (by decide) (by decide)).trans rfl)))
      have q739 : (gV τ729 22 0 6).toInt = (gV σ 22 0 6).toInt := congrArg Int32.toInt (show (gV τ729 22 0 6) = (gV σ 22 0 6) from (show gV τ729 22 0 6 = (gV σ 22 0 6) from (f731.1 22 0 (6) (by decide) (by decide)).trans (show gV τ699 22 0 6 = (gV σ 22 0 6) from (f701.1 22 0 (6) (by decide) (by decide)).trans rfl)))
      have q740 : (gV τ729 23 0 150).toInt = (gV σ 23 0 150).toInt := congrArg Int32.toInt (show (gV τ729 23 0 150) = (gV σ 23 0 150) from (show gV τ729 23 0 150 = (gV σ 23 0 150) from (f731.1 23 0 (150) (by decide) (by decide)).trans (show gV τ699 23 0 150 = (gV σ 23 0 150) from (f701.1 23 0 (150) (by decide) (by decide)).trans rfl)))
      have q741 : (gV τ729 23 0 152).toInt = (gV σ 23 0 152).toInt := congrArg Int32.toInt (show (gV τ729 23 0 152) = (gV σ 23 0 152) from (show gV τ729 23 0 152 = (gV σ 23 0 152) from (f731.1 23 0 (152) (by decide) (by decide)).trans (show gV τ699 23 0 152 = (gV σ 23 0 152) from (f701.1 23 0 (152) (by decide) (by decide)).trans rfl)))
      have q742 : (gV τ729 23 0 188).toInt = (gV σ 23 0 188).toInt := congrArg Int32.toInt (show (gV τ729 23 0 188) = (gV σ 23 0 188) from (show gV τ729 23 0 188 = (gV σ 23 0 188) from (f731.1 23 0 (188) (by decide) (by decide)).trans (show gV τ699 23 0 188 = (gV σ 23 0 188) from (f701.1 23 0 (188) (by decide) (by decide)).trans rfl)))
      have q743 : (gV τ729 22 0 11).toInt = (gV τ699 22 0 11).toInt := congrArg Int32.toInt (show (gV τ729 22 0 11) = (gV τ699 22 0 11) from (show gV τ729 22 0 11 = (gV τ699 22 0 11) from (f731.1 22 0 (11) (by decide) (by decide)).trans rfl))
      have q744 : (gV τ729 22 0 12).toInt = (gV τ699 22 0 12).toInt := congrArg Int32.toInt (show (gV τ729 22 0 12) = (gV τ699 22 0 12) from (show gV τ729 22 0 12 = (gV τ699 22 0 12) from (f731.1 22 0 (12) (by decide) (by decide)).trans rfl))
      have q745 : (gV τ729 22 0 13).toInt = (gV τ699 22 0 13).toInt := congrArg Int32.toInt (show (gV τ729 22 0 13) = (gV τ699 22 0 13) from (show gV τ729 22 0 13 = (gV τ699 22 0 13) from (f731.1 22 0 (13) (by decide) (by decide)).trans rfl))
      have q746 : (gV τ729 22 0 15).toInt = (gV τ699 22 0 15).toInt := congrArg Int32.toInt (show (gV τ729 22 0 15) = (gV τ699 22 0 15) from (show gV τ729 22 0 15 = (gV τ699 22 0 15) from (f731.1 22 0 (15) (by decide) (by decide)).trans rfl))
      rcases h735 with ⟨h735_0, h735_1⟩ | ⟨h735_0, h735_1⟩ | ⟨h735_0, h735_1⟩ | ⟨h735_0, h735_1⟩ | ⟨h735_0, h735_1⟩ | ⟨h735_0, h735_1, h735_2, h735_3, h735_4, h735_5⟩
      · skip
        have b747 : IV x732 1 1 := ⟨by omega, by omega⟩
        have a748 : tW T N (tE T N i) 2 = 1 := q724.mp h735_1
        have a749 : ¬ tW T N (tE T N i) 3 = 1 := fun h => by have h2 := q725.mpr h; rw [h735_1] at h2; exact absurd h2 (by decide)
        have a750 : ¬ tW T N (tE T N i) 4 = 1 := fun h => by have h2 := q726.mpr h; rw [h735_1] at h2; exact absurd h2 (by decide)
        have a751 : ¬ tW T N (tE T N i) 5 = 1 := fun h => by have h2 := q727.mpr h; rw [h735_1] at h2; exact absurd h2 (by decide)
        have a752 : ¬ tW T N (tE T N i) 6 = 1 := fun h => by have h2 := q728.mpr h; rw [h735_1] at h2; exact absurd h2 (by decide)
        have q753 : tQ T N (tE T N i) = 1 := tQ_a1 q723 a748
        clear a748 a749 a750 a751 a752 q724 q725 q726 q727 q728
        show MW p l e _ s m args below meth c _ 4 G 0 0 39 [some (.ref (G.1 22 0)), some (.int (gV σ 23 0 152)), none, none] [.int x732] τ729
        refine m_goto (tgt := 43) C dX12_takePerson_39 (by decide) ?_
        exact J43 τ729 (gV σ 23 0 152) x732 i730 g734 b698 (iv_wk b747 (by decide)) v736 v737 ⟨by omega, by omega, by omega, by omega, by omega, by omega, by omega, by omega⟩ (by omega)
      · skip
        have b754 : IV x732 4 4 := ⟨by omega, by omega⟩
        have a755 : ¬ tW T N (tE T N i) 2 = 1 := fun h => by have h2 := q724.mpr h; rw [h735_1] at h2; exact absurd h2 (by decide)
        have a756 : ¬ tW T N (tE T N i) 3 = 1 := fun h => by have h2 := q725.mpr h; rw [h735_1] at h2; exact absurd h2 (by decide)
        have a757 : ¬ tW T N (tE T N i) 4 = 1 := fun h => by have h2 := q726.mpr h; rw [h735_1] at h2; exact absurd h2 (by decide)
        have a758 : tW T N (tE T N i) 5 = 1 := q727.mp h735_1
        have a759 : ¬ tW T N (tE T N i) 6 = 1 := fun h => by have h2 := q728.mpr h; rw [h735_1] at h2; exact absurd h2 (by decide)
        have q760 : tQ T N (tE T N i) = 4 := tQ_a4 q723 a755 a756 a757 a758
        clear a755 a756 a757 a758 a759 q724 q725 q726 q727 q728
        show MW p l e _ s m args below meth c _ 4 G 0 0 39 [some (.ref (G.1 22 0)), some (.int (gV σ 23 0 152)), none, none] [.int x732] τ729
        refine m_goto (tgt := 43) C dX12_takePerson_39 (by decide) ?_
        exact J43 τ729 (gV σ 23 0 152) x732 i730 g734 b698 (iv_wk b754 (by decide)) v736 v737 ⟨by omega, by omega, by omega, by omega, by omega, by omega, by omega, by omega⟩ (by omega)
      · skip
        have b761 : IV x732 2 2 := ⟨by omega, by omega⟩
        have a762 : ¬ tW T N (tE T N i) 2 = 1 := fun h => by have h2 := q724.mpr h; rw [h735_1] at h2; exact absurd h2 (by decide)
        have a763 : tW T N (tE T N i) 3 = 1 := q725.mp h735_1
        have a764 : ¬ tW T N (tE T N i) 4 = 1 := fun h => by have h2 := q726.mpr h; rw [h735_1] at h2; exact absurd h2 (by decide)
        have a765 : ¬ tW T N (tE T N i) 5 = 1 := fun h => by have h2 := q727.mpr h; rw [h735_1] at h2; exact absurd h2 (by decide)
        have a766 : ¬ tW T N (tE T N i) 6 = 1 := fun h => by have h2 := q728.mpr h; rw [h735_1] at h2; exact absurd h2 (by decide)
        have q767 : tQ T N (tE T N i) = 2 := tQ_a2 q723 a762 a763
        clear a762 a763 a764 a765 a766 q724 q725 q726 q727 q728
        show MW p l e _ s m args below meth c _ 4 G 0 0 39 [some (.ref (G.1 22 0)), some (.int (gV σ 23 0 152)), none, none] [.int x732] τ729
        refine m_goto (tgt := 43) C dX12_takePerson_39 (by decide) ?_
        exact J43 τ729 (gV σ 23 0 152) x732 i730 g734 b698 (iv_wk b761 (by decide)) v736 v737 ⟨by omega, by omega, by omega, by omega, by omega, by omega, by omega, by omega⟩ (by omega)
      · skip
        have b768 : IV x732 5 5 := ⟨by omega, by omega⟩
        have a769 : ¬ tW T N (tE T N i) 2 = 1 := fun h => by have h2 := q724.mpr h; rw [h735_1] at h2; exact absurd h2 (by decide)
        have a770 : ¬ tW T N (tE T N i) 3 = 1 := fun h => by have h2 := q725.mpr h; rw [h735_1] at h2; exact absurd h2 (by decide)
        have a771 : ¬ tW T N (tE T N i) 4 = 1 := fun h => by have h2 := q726.mpr h; rw [h735_1] at h2; exact absurd h2 (by decide)
        have a772 : ¬ tW T N (tE T N i) 5 = 1 := fun h => by have h2 := q727.mpr h; rw [h735_1] at h2; exact absurd h2 (by decide)
        have a773 : tW T N (tE T N i) 6 = 1 := q728.mp h735_1
        have q774 : tQ T N (tE T N i) = 5 := tQ_a5 q723 a769 a770 a771 a772 a773
        clear a769 a770 a771 a772 a773 q724 q725 q726 q727 q728
        show MW p l e _ s m args below meth c _ 4 G 0 0 39 [some (.ref (G.1 22 0)), some (.int (gV σ 23 0 152)), none, none] [.int x732] τ729
        refine m_goto (tgt := 43) C dX12_takePerson_39 (by decide) ?_
        exact J43 τ729 (gV σ 23 0 152) x732 i730 g734 b698 (iv_wk b768 (by decide)) v736 v737 ⟨by omega, by omega, by omega, by omega, by omega, by omega, by omega, by omega⟩ (by omega)
      · skip
        have b775 : IV x732 3 3 := ⟨by omega, by omega⟩
        have a776 : ¬ tW T N (tE T N i) 2 = 1 := fun h => by have h2 := q724.mpr h; rw [h735_1] at h2; exact absurd h2 (by decide)
        have a777 : ¬ tW T N (tE T N i) 3 = 1 := fun h => by have h2 := q725.mpr h; rw [h735_1] at h2; exact absurd h2 (by decide)
        have a778 : tW T N (tE T N i) 4 = 1 := q726.mp h735_1
        have a779 : ¬ tW T N (tE T N i) 5 = 1 := fun h => by have h2 := q727.mpr h; rw [h735_1] at h2; exact absurd h2 (by decide)
        have a780 : ¬ tW T N (tE T N i) 6 = 1 := fun h => by have h2 := q728.mpr h; rw [h735_1] at h2; exact absurd h2 (by decide)
        have q781 : tQ T N (tE T N i) = 3 := tQ_a3 q723 a776 a777 a778
        clear a776 a777 a778 a779 a780 q724 q725 q726 q727 q728
        show MW p l e _ s m args below meth c _ 4 G 0 0 39 [some (.ref (G.1 22 0)), some (.int (gV σ 23 0 152)), none, none] [.int x732] τ729
        refine m_goto (tgt := 43) C dX12_takePerson_39 (by decide) ?_
        exact J43 τ729 (gV σ 23 0 152) x732 i730 g734 b698 (iv_wk b775 (by decide)) v736 v737 ⟨by omega, by omega, by omega, by omega, by omega, by omega, by omega, by omega⟩ (by omega)
      · skip
        have b782 : IV x732 (-1) (-1) := ⟨by omega, by omega⟩
        have a783 : ¬ tW T N (tE T N i) 2 = 1 := fun h => h735_1 (q724.mpr h)
        have a784 : ¬ tW T N (tE T N i) 3 = 1 := fun h => h735_3 (q725.mpr h)
        have a785 : ¬ tW T N (tE T N i) 4 = 1 := fun h => h735_5 (q726.mpr h)
        have a786 : ¬ tW T N (tE T N i) 5 = 1 := fun h => h735_2 (q727.mpr h)
        have a787 : ¬ tW T N (tE T N i) 6 = 1 := fun h => h735_4 (q728.mpr h)
        have q788 : tQ T N (tE T N i) = 0 := tQ_a0 q723 a783 a784 a785 a786 a787
        clear a783 a784 a785 a786 a787 q724 q725 q726 q727 q728
        show MW p l e _ s m args below meth c _ 4 G 0 0 39 [some (.ref (G.1 22 0)), some (.int (gV σ 23 0 152)), none, none] [.int x732] τ729
        refine m_goto (tgt := 43) C dX12_takePerson_39 (by decide) ?_
        exact J43 τ729 (gV σ 23 0 152) x732 i730 g734 b698 (iv_wk b782 (by decide)) v736 v737 ⟨by omega, by omega, by omega, by omega, by omega, by omega, by omega, by omega⟩ (by omega)
  · have f789 : (gV σ 23 0 152).toInt = 7 := by
      have q : _ := c696
      simp only [ti_nle, ti_nlt, ti_le, ti_lt, ti_eq, ti_ne, Classical.not_not, kt_7] at q
      omega
    have b790 : IV (gV σ 23 0 152) 7 7 := ⟨by have q1 := u691; have q2 := kc_7; omega, by have q1 := u691; have q2 := kc_7; omega⟩
    refine m_aload_n C dX12_takePerson_15 rfl rfl ?_
    refine m_iconst (v := 3) C dX12_takePerson_16 (by decide) ?_
    refine p_22_16 C q4_132 dX12_takePerson_17 ?_
    refine m_tops (fun τ791 eτ791 => ?_)
    have i792 : Inv τ791 := eτ791 ▸ Inv.putF hI (by decide) rfl
    have f793 : Fr MS_X12_takePersonE AS_X12_takePersonE σ τ791 := eτ791 ▸ Fr.put (Fr.rf) (Or.inl (by decide))
    have v794 : CP (gV σ 23 0 152).toInt τ791 := (hPb.cp hI).put eτ791 (Or.inl (by decide))
    have v795 : TpM τ791 T N := hT.put eτ791 (Or.inr (by decide)) (by decide)
    have v796 : τ791.2.2.1 = σ.2.2.1 := by rw [eτ791]; rfl
    have q797 : (gV τ791 22 0 11).toInt = (gV σ 22 0 11).toInt := congrArg Int32.toInt (show (gV τ791 22 0 11) = (gV σ 22 0 11) from (show gV τ791 22 0 11 = (gV σ 22 0 11) from gV_put eτ791 rfl))
    have q798 : (gV τ791 22 0 12).toInt = (gV σ 22 0 12).toInt := congrArg Int32.toInt (show (gV τ791 22 0 12) = (gV σ 22 0 12) from (show gV τ791 22 0 12 = (gV σ 22 0 12) from gV_put eτ791 rfl))
    have q799 : (gV τ791 22 0 13).toInt = (gV σ 22 0 13).toInt := congrArg Int32.toInt (show (gV τ791 22 0 13) = (gV σ 22 0 13) from (show gV τ791 22 0 13 = (gV σ 22 0 13) from gV_put eτ791 rfl))
    have q800 : (gV τ791 22 0 15).toInt = (gV σ 22 0 15).toInt := congrArg Int32.toInt (show (gV τ791 22 0 15) = (gV σ 22 0 15) from (show gV τ791 22 0 15 = (gV σ 22 0 15) from gV_put eτ791 rfl))
    have q801 : (gV τ791 22 0 6).toInt = (gV σ 22 0 6).toInt := congrArg Int32.toInt (show (gV τ791 22 0 6) = (gV σ 22 0 6) from (show gV τ791 22 0 6 = (gV σ 22 0 6) from gV_put eτ791 rfl))
    have q802 : (gV τ791 23 0 150).toInt = (gV σ 23 0 150).toInt := congrArg Int32.toInt (show (gV τ791 23 0 150) = (gV σ 23 0 150) from (show gV τ791 23 0 150 = (gV σ 23 0 150) from gV_put eτ791 rfl))
    have q803 : (gV τ791 23 0 152).toInt = (gV σ 23 0 152).toInt := congrArg Int32.toInt (show (gV τ791 23 0 152) = (gV σ 23 0 152) from (show gV τ791 23 0 152 = (gV σ 23 0 152) from gV_put eτ791 rfl))
    have q804 : (gV τ791 23 0 188).toInt = (gV σ 23 0 188).toInt := congrArg Int32.toInt (show (gV τ791 23 0 188) = (gV σ 23 0 188) from (show gV τ791 23 0 188 = (gV σ 23 0 188) from gV_put eτ791 rfl))
    have q805 : (gV τ791 22 0 16).toInt = 3 := (congrArg Int32.toInt (show (gV τ791 22 0 16) = 3 from (show gV τ791 22 0 16 = 3 from gV_put eτ791 (gV_self _ _ _ _ _)))).trans kt_3
    exact m_vret C hr hlk (by decide) (by decide) dX12_takePerson_20 ⟨rfl, i792, f793, (by have qd := per_0 T N st cc i (by omega); exact Or.inl ⟨by omega, by omega, by omega, by omega, by omega, by omega⟩)⟩
