abbrev MS_X12_takePersonE : List (Nat × Nat) := [(22, 11), (22, 12), (22, 13), (22, 15), (22, 16)]
abbrev AS_X12_takePersonE : List Nat := [23]
set_option maxHeartbeats 4000000 in
set_option maxRecDepth 100000 in
theorem c_X12_takePersonE (l : Launch) (G : Gt) (σ : Sg) (T : Nat → Int) (N : Nat) (i : Nat) (st : Int) (cc : Int) (hI : Inv σ) (hT : TpM σ T N) (hcur : CuM T N i σ) (hat : (gV σ 22 0 11).toInt ≤ (gV σ 22 0 6).toInt) (htk : tK T N i = 1) (hf0 : (gV σ 22 0 16).toInt = 0) (hPb : Pb σ) (hst : ((gV σ 23 0 150).toInt = st ∧ 4 ≤ st ∧ st ≤ 32 ∧ (gV σ 23 0 152).toInt = cc)) : Mc l G yX12_takePerson cX12_takePerson 4 none 3 69 0 0 [.ref (G.1 22 0)] σ (PV fun τ => Inv τ ∧ Fr MS_X12_takePersonE AS_X12_takePersonE σ τ ∧ ((perF T N st cc i ≠ 0 ∧ ((gV τ 22 0 16).toInt = perF T N st cc i ∧ 1 ≤ (gV τ 22 0 16).toInt ∧ (gV τ 22 0 16).toInt ≤ 3) ∧ ((gV τ 22 0 12).toInt = perP T N st cc i ∧ 0 ≤ (gV τ 22 0 12).toInt ∧ (gV τ 22 0 12).toInt ≤ 400) ∧ ((gV τ 23 0 152).toInt = cc ∨ (gV τ 23 0 152).toInt = cc + 1) ∧ ((gV τ 23 0 150).toInt = (gV σ 23 0 150).toInt ∧ (gV τ 23 0 188).toInt = (gV σ 23 0 188).toInt) ∧ (gV τ 22 0 11).toInt ≤ (gV τ 22 0 6).toInt) ∨ (perF T N st cc i = 0 ∧ (gV τ 22 0 16).toInt = 0 ∧ (gV τ 23 0 152).toInt = cc + 1 ∧ ((gV τ 22 0 12).toInt = (tS T (tE T N (tE T N (tE T N (tE T N (tE T N (tE T N i)))))) : Int) ∧ (tK T N (tE T N (tE T N (tE T N (tE T N (tE T N (tE T N i)))))) ≠ 4 → (gV τ 22 0 11).toInt = (tE T N (tE T N (tE T N (tE T N (tE T N (tE T N (tE T N i)))))) : Int)) ∧ (gV τ 22 0 13).toInt = (tK T N (tE T N (tE T N (tE T N (tE T N (tE T N (tE T N i)))))) + 4) % 5 ∧ 0 ≤ tK T N (tE T N (tE T N (tE T N (tE T N (tE T N (tE T N i)))))) ∧ tK T N (tE T N (tE T N (tE T N (tE T N (tE T N (tE T N i)))))) ≤ 4 ∧ (tK T N (tE T N (tE T N (tE T N (tE T N (tE T N (tE T N i)))))) = 2 → (gV τ 22 0 15).toInt = tV T (tE T N (tE T N (tE T N (tE T N (tE T N (tE T N i))))))) ∧ (gV τ 22 0 12).toInt ≤ 400) ∧ ((gV τ 23 0 150).toInt = (gV σ 23 0 150).toInt ∧ (gV τ 23 0 188).toInt = (gV σ 23 0 188).toInt) ∧ (gV τ 22 0 11).toInt ≤ (gV τ 22 0 6).toInt ∧ Pb τ ∧ LW T N (tE T N (tE T N (tE T N (tE T N (tE T N (tE T N i)))))) τ.2.2.1))) := by
  refine Mc.of (L0 := [some (.ref (G.1 22 0)), none, none, none]) (by decide) (Nat.le_of_ble_eq_true rfl) rfl ?_
  intro p e s m args below meth c C hr hlk
  have C : Cx p s m args c cX12_takePerson 4 "LeanTowerModel" := C
  have k0 : (0 : Int32).toInt = 0 := by decide
  have k1 : (1 : Int32).toInt = 1 := by decide
  have J43 : ∀ (τ : Sg) (y1 : Int32) (z0 : Int32), Inv τ → Fr MS_X12_takePersonE AS_X12_takePersonE σ τ → IV y1 0 6 → IV z0 (-1) 5 → (CP (gV σ 23 0 152).toInt τ) → (TpM τ T N) → ((CuM T N (tE T N i) τ ∧ (gV τ 22 0 11).toInt ≤ (gV τ 22 0 6).toInt ∧ (gV τ 22 0 16).toInt = 0 ∧ (gV τ 23 0 150).toInt = st ∧ (gV τ 23 0 152).toInt = cc ∧ (gV τ 23 0 188).toInt = (gV σ 23 0 188).toInt ∧ cc ≤ 6 ∧ y1.toInt = cc)) → (((z0.toInt = -1 ∧ tQ T N (tE T N i) = 0) ∨ (1 ≤ z0.toInt ∧ z0.toInt ≤ 5 ∧ z0.toInt = tQ T N (tE T N i)))) → MW p l e { frames := 3, cells := 0, slots := 0, locals := 69 } s m args below meth c (MQ below (QP G (PV fun τ => Inv τ ∧ Fr MS_X12_takePersonE AS_X12_takePersonE σ τ ∧ ((perF T N st cc i ≠ 0 ∧ ((gV τ 22 0 16).toInt = perF T N st cc i ∧ 1 ≤ (gV τ 22 0 16).toInt ∧ (gV τ 22 0 16).toInt ≤ 3) ∧ ((gV τ 22 0 12).toInt = perP T N st cc i ∧ 0 ≤ (gV τ 22 0 12).toInt ∧ (gV τ 22 0 12).toInt ≤ 400) ∧ ((gV τ 23 0 152).toInt = cc ∨ (gV τ 23 0 152).toInt = cc + 1) ∧ ((gV τ 23 0 150).toInt = (gV σ 23 0 150).toInt ∧ (gV τ 23 0 188).toInt = (gV σ 23 0 188).toInt) ∧ (gV τ 22 0 11).toInt ≤ (gV τ 22 0 6).toInt) ∨ (perF T N st cc i = 0 ∧ (gV τ 22 0 16).toInt = 0 ∧ (gV τ 23 0 152).toInt = cc + 1 ∧ ((gV τ 22 0 12).toInt = (tS T (tE T N (tE T N (tE T N (tE T N (tE T N (tE T N i)))))) : Int) ∧ (tK T N (tE T N (tE T N (tE T N (tE T N (tE T N (tE T N i)))))) ≠ 4 → (gV τ 22 0 11).toInt = (tE T N (tE T N (tE T N (tE T N (tE T N (tE T N (tE T N i)))))) : Int)) ∧ (gV τ 22 0 13).toInt = (tK T N (tE T N (tE T N (tE T N (tE T N (tE T N (tE T N i)))))) + 4) % 5 ∧ 0 ≤ tK T N (tE T N (tE T N (tE T N (tE T N (tE T N (tE T N i)))))) ∧ tK T N (tE T N (tE T N (tE T N (tE T N (tE T N (tE T N i)))))) ≤ 4 ∧ (tK T N (tE T N (tE T N (tE T N (tE T N (tE T N (tE T N i)))))) = 2 → (gV τ 22 0 15).toInt = tV T (tE T N (tE T N (tE T N (tE T N (tE T N (tE T N i))))))) ∧ (gV τ 22 0 12).toInt ≤ 400) ∧ ((gV τ 23 0 150).toInt = (gV σ 23 0 150).toInt ∧ (gV τ 23 0 188).toInt = (gV σ 23 0 188).toInt) ∧ (gV τ 22 0 11).toInt ≤ (gV τ 22 0 6).toInt ∧ Pb τ ∧ LW T N (tE T N (tE T N (tE T N (tE T N (tE T N (tE T N i)))))) τ.2.2.1)))) args s 0 0 (aG G)) 4 G 0 0 43 [some (.ref (G.1 22 0)), some (.int y1), none, none] [.int z0] τ := by
    intro τ y1 z0 iτ fτ b_y1 b_z0 v_CP v_T nA nB
    have u1 : IV (gV τ 22 0 11) 0 400 := iτ.1 22 0 11
    have u2 : IV (gV τ 22 0 6) 0 400 := iτ.1 22 0 6
    have u3 : IV (gV τ 23 0 152) 0 7 := iτ.1 23 0 152
    have u4 : IV (gV τ 23 0 188) 0 4 := iτ.1 23 0 188
    have q5 : (gV τ 22 0 6).toInt = (N : Int) := v_T.1
    have q6 := v_T.2.1
    obtain ⟨nc_, na_, nf_, ns_, nw_, nx_, ny_, nz_⟩ := nA
    rcases nB with ⟨nq_, nr_⟩ | ⟨nq_, nr_, nt_⟩
    · have b7 : IV z0 (-1) (-1) := ⟨by omega, by omega⟩
      have b8 : IV (gV τ 22 0 16) 0 0 := ⟨by omega, by omega⟩
      refine m_istore_n (L1 := [some (.ref (G.1 22 0)), some (.int y1), some (.int z0), none]) C dX12_takePerson_43 rfl (by decide) rfl rfl ?_
      refine m_iload_n C dX12_takePerson_44 rfl rfl ?_
      refine m_if_ge (tgt := 54) C dX12_takePerson_45 (by decide) (fun c9 => ?_) (fun c9 => ?_)
      · exfalso
        have q : _ := c9
        simp only [ti_nle, ti_nlt, ti_le, ti_lt, ti_eq, ti_ne, Classical.not_not, kt_0] at q
        have q1 := b7; have q2 := kc_0; omega
      · have f11 : z0.toInt < 0 := by
          have q : _ := c9
          simp only [ti_nle, ti_nlt, ti_le, ti_lt, ti_eq, ti_ne, Classical.not_not, kt_0] at q
          omega
        refine m_aload_n C dX12_takePerson_48 rfl rfl ?_
        refine m_iconst (v := 1) C dX12_takePerson_49 (by decide) ?_
        refine p_22_16 C q4_132 dX12_takePerson_50 ?_
        refine m_tops (fun τ12 eτ12 => ?_)
        have i13 : Inv τ12 := eτ12 ▸ Inv.putF iτ (by decide) rfl
        have f14 : Fr MS_X12_takePersonE AS_X12_takePersonE σ τ12 := eτ12 ▸ Fr.put (fτ) (Or.inl (by decide))
        have v15 : CP (gV σ 23 0 152).toInt τ12 := v_CP.put eτ12 (Or.inl (by decide))
        have v16 : TpM τ12 T N := v_T.put eτ12 (Or.inr (by decide)) (by decide)
        have v17 : τ12.2.2.1 = τ.2.2.1 := by rw [eτ12]; rfl
        have v18 : CuM T N (tE T N i) τ12 := CuM.put nc_ eτ12 (Or.inr (by decide))
        have q19 : (gV τ12 22 0 11).toInt = (gV τ 22 0 11).toInt := congrArg Int32.toInt (show (gV τ12 22 0 11) = (gV τ 22 0 11) from (show gV τ12 22 0 11 = (gV τ 22 0 11) from gV_put eτ12 rfl))
        have q20 : (gV τ12 22 0 12).toInt = (gV τ 22 0 12).toInt := congrArg Int32.toInt (show (gV τ12 22 0 12) = (gV τ 22 0 12) from (show gV τ12 22 0 12 = (gV τ 22 0 12) from gV_put eτ12 rfl))
        have q21 : (gV τ12 22 0 6).toInt = (gV τ 22 0 6).toInt := congrArg Int32.toInt (show (gV τ12 22 0 6) = (gV τ 22 0 6) from (show gV τ12 22 0 6 = (gV τ 22 0 6) from gV_put eτ12 rfl))
        have q22 : (gV τ12 23 0 150).toInt = (gV τ 23 0 150).toInt := congrArg Int32.toInt (show (gV τ12 23 0 150) = (gV τ 23 0 150) from (show gV τ12 23 0 150 = (gV τ 23 0 150) from gV_put eτ12 rfl))
        have q23 : (gV τ12 23 0 152).toInt = (gV τ 23 0 152).toInt := congrArg Int32.toInt (show (gV τ12 23 0 152) = (gV τ 23 0 152) from (show gV τ12 23 0 152 = (gV τ 23 0 152) from gV_put eτ12 rfl))
        have q24 : (gV τ12 23 0 188).toInt = (gV τ 23 0 188).toInt := congrArg Int32.toInt (show (gV τ12 23 0 188) = (gV τ 23 0 188) from (show gV τ12 23 0 188 = (gV τ 23 0 188) from gV_put eτ12 rfl))
        have q25 : (gV τ12 22 0 16).toInt = 1 := (congrArg Int32.toInt (show (gV τ12 22 0 16) = 1 from (show gV τ12 22 0 16 = 1 from gV_put eτ12 (gV_self _ _ _ _ _)))).trans kt_1
        exact m_vret C hr hlk (by decide) (by decide) dX12_takePerson_53 ⟨rfl, i13, f14, (by have qd := per_1 T N st cc i (by omega) (by omega); exact Or.inl ⟨by omega, by omega, by omega, by omega, by omega, by omega⟩)⟩
    · have b26 : IV z0 1 5 := ⟨by omega, by omega⟩
      have b27 : IV (gV τ 22 0 16) 0 0 := ⟨by omega, by omega⟩
      have nk_ := tQ_k (T := T) (N := N) (i := (tE T N i)) (by omega)
      refine m_istore_n (L1 := [some (.ref (G.1 22 0)), some (.int y1), some (.int z0), none]) C dX12_takePerson_43 rfl (by decide) rfl rfl ?_
      refine m_iload_n C dX12_takePerson_44 rfl rfl ?_
      refine m_if_ge (tgt := 54) C dX12_takePerson_45 (by decide) (fun c28 => ?_) (fun c28 => ?_)
      · have f29 : 0 ≤ z0.toInt := by
          have q : _ := c28
          simp only [ti_nle, ti_nlt, ti_le, ti_lt, ti_eq, ti_ne, Classical.not_not, kt_0] at q
          omega
        refine m_aload_n C dX12_takePerson_54 rfl rfl ?_
        refine m_callV (n := 0) (ci := 11) (st := []) C (c_X12_nextE l G τ T N (tE T N (tE T N i))  iτ v_T (by have qc := nc_.1; omega)) (by decide) (by decide) rfl rfl rfl q4_231 q4_228 q4_230 q0_28 q1_7 (by decide +kernel) rfl (by decide) (by decide) rfl (Nat.le_of_ble_eq_true rfl) dX12_takePerson_55 ?_
        rintro _ τ30 ⟨rfl, i31, f32, h36⟩
        have g35 : Fr MS_X12_takePersonE AS_X12_takePersonE σ τ30 := Fr.call (fτ) f32 (by decide)
        have v37 : CP (gV σ 23 0 152).toInt τ30 := v_CP.call (fun k => f32.1 23 0 k (by simp) (by decide))
        have v38 : TpM τ30 T N := v_T.fr f32 (by decide) (by decide) (by simp) (by decide)
        obtain ⟨h39, h41, v40⟩ := h36
        have v42 : CuM T N (tE T N (tE T N i)) τ30 := ⟨h39, h41⟩
        clear h39
        have u43 : IV (gV τ30 22 0 11) 0 400 := i31.1 22 0 11
        have q44 : (gV τ30 22 0 16).toInt = (gV τ 22 0 16).toInt := congrArg Int32.toInt (show (gV τ30 22 0 16) = (gV τ 22 0 16) from (show gV τ30 22 0 16 = (gV τ 22 0 16) from (f32.1 22 0 (16) (by decide) (by decide)).trans rfl))
        have q45 : (gV τ30 22 0 6).toInt = (gV τ 22 0 6).toInt := congrArg Int32.toInt (show (gV τ30 22 0 6) = (gV τ 22 0 6) from (show gV τ30 22 0 6 = (gV τ 22 0 6) from (f32.1 22 0 (6) (by decide) (by decide)).trans rfl))
        have q46 : (gV τ30 23 0 150).toInt = (gV τ 23 0 150).toInt := congrArg Int32.toInt (show (gV τ30 23 0 150) = (gV τ 23 0 150) from (show gV τ30 23 0 150 = (gV τ 23 0 150) from (f32.1 23 0 (150) (by decide) (by decide)).trans rfl))
        have q47 : (gV τ30 23 0 152).toInt = (gV τ 23 0 152).toInt := congrArg Int32.toInt (show (gV τ30 23 0 152) = (gV τ 23 0 152) from (show gV τ30 23 0 152 = (gV τ 23 0 152) from (f32.1 23 0 (152) (by decide) (by decide)).trans rfl))
        have q48 : (gV τ30 23 0 188).toInt = (gV τ 23 0 188).toInt := congrArg Int32.toInt (show (gV τ30 23 0 188) = (gV τ 23 0 188) from (show gV τ30 23 0 188 = (gV τ 23 0 188) from (f32.1 23 0 (188) (by decide) (by decide)).trans rfl))
        show MW p l e _ s m args below meth c _ 4 G 0 0 58 [some (.ref (G.1 22 0)), some (.int y1), some (.int z0), none] [] τ30
        refine m_aload_n C dX12_takePerson_58 rfl rfl ?_
        refine g_22_0 C q4_116 dX12_takePerson_59 ?_
        refine m_sipush (v := 153) C dX12_takePerson_62 (by decide) ?_
        refine m_iload_n C dX12_takePerson_65 rfl rfl ?_
        refine m_iadd C dX12_takePerson_66 ?_
        refine m_topi (fun x49 ex49 => ?_)
        have tx49 : x49.toInt = 153 + y1.toInt := by rw [ex49, ti_addv kc_153 b_y1 (by decide), kt_153]
        have b50 : IV x49 153 159 := by rw [ex49]; exact iv_add kc_153 b_y1 (by decide)
        refine m_iload_n C dX12_takePerson_67 rfl rfl ?_
        refine as_23 C b50 (by decide) rfl dX12_takePerson_68 ?_
        refine m_tops (fun τ51 eτ51 => ?_)
        have i52 : Inv τ51 := eτ51 ▸ Inv.putRo i31 (by omega)
        have f53 : Fr MS_X12_takePersonE AS_X12_takePersonE σ τ51 := eτ51 ▸ Fr.put (g35) (Or.inr (by decide))
        have v54 : CP (gV σ 23 0 152).toInt τ51 := v37.put eτ51 (Or.inr (fun q hq => by omega))
        have v55 : TpM τ51 T N := v38.put eτ51 (Or.inl (by decide)) (by decide)
        have v56 : LW T N (tE T N (tE T N i)) τ51.2.2.1 := by rw [eτ51]; exact v40
        have v57 : CuM T N (tE T N (tE T N i)) τ51 := CuM.put v42 eτ51 (Or.inl (by decide))
        refine m_aload_n C dX12_takePerson_69 rfl rfl ?_
        refine g_22_0 C q4_116 dX12_takePerson_70 ?_
        refine m_sipush (v := 160) C dX12_takePerson_73 (by decide) ?_
        refine m_iload_n C dX12_takePerson_76 rfl rfl ?_
        refine m_iadd C dX12_takePerson_77 ?_
        refine m_topi (fun x58 ex58 => ?_)
        have tx58 : x58.toInt = 160 + y1.toInt := by rw [ex58, ti_addv kc_160 b_y1 (by decide), kt_160]
        have b59 : IV x58 160 166 := by rw [ex58]; exact iv_add kc_160 b_y1 (by decide)
        refine m_aload_n C dX12_takePerson_78 rfl rfl ?_
        refine m_iconst (v := 1) C dX12_takePerson_79 (by decide) ?_
        refine m_bipush (v := 20) C dX12_takePerson_80 (by decide) ?_
        refine m_iconst (v := 1) C dX12_takePerson_82 (by decide) ?_
        have q60 : (gV τ51 22 0 16).toInt = (gV τ 22 0 16).toInt := congrArg Int32.toInt (show (gV τ51 22 0 16) = (gV τ 22 0 16) from (show gV τ51 22 0 16 = (gV τ 22 0 16) from gV_put eτ51 (show gV τ30 22 0 16 = (gV τ 22 0 16) from (f32.1 22 0 (16) (by decide) (by decide)).trans rfl)))
        have q61 : (gV τ51 22 0 6).toInt = (gV τ 22 0 6).toInt := congrArg Int32.toInt (show (gV τ51 22 0 6) = (gV τ 22 0 6) from (show gV τ51 22 0 6 = (gV τ 22 0 6) from gV_put eτ51 (show gV τ30 22 0 6 = (gV τ 22 0 6) from (f32.1 22 0 (6) (by decide) (by decide)).trans rfl)))
        have q62 : (gV τ51 23 0 150).toInt = (gV τ 23 0 150).toInt := congrArg Int32.toInt (show (gV τ51 23 0 150) = (gV τ 23 0 150) from (show gV τ51 23 0 150 = (gV τ 23 0 150) from (gV_putn eτ51 (Or.inr (Or.inr (by omega)))).trans (show gV τ30 23 0 150 = (gV τ 23 0 150) from (f32.1 23 0 (150) (by decide) (by decide)).trans rfl)))
        have q63 : (gV τ51 23 0 152).toInt = (gV τ 23 0 152).toInt := congrArg Int32.toInt (show (gV τ51 23 0 152) = (gV τ 23 0 152) from (show gV τ51 23 0 152 = (gV τ 23 0 152) from (gV_putn eτ51 (Or.inr (Or.inr (by omega)))).trans (show gV τ30 23 0 152 = (gV τ 23 0 152) from (f32.1 23 0 (152) (by decide) (by decide)).trans rfl)))
        have q64 : (gV τ51 23 0 188).toInt = (gV τ 23 0 188).toInt := congrArg Int32.toInt (show (gV τ51 23 0 188) = (gV τ 23 0 188) from (show gV τ51 23 0 188 = (gV τ 23 0 188) from (gV_putn eτ51 (Or.inr (Or.inr (by omega)))).trans (show gV τ30 23 0 188 = (gV τ 23 0 188) from (f32.1 23 0 (188) (by decide) (by decide)).trans rfl)))
        have q65 : (gV τ51 22 0 11).toInt = (gV τ30 22 0 11).toInt := congrArg Int32.toInt (show (gV τ51 22 0 11) = (gV τ30 22 0 11) from (show gV τ51 22 0 11 = (gV τ30 22 0 11) from gV_put eτ51 rfl))
        have q66 : (gV τ51 22 0 12).toInt = (gV τ30 22 0 12).toInt := congrArg Int32.toInt (show (gV τ51 22 0 12) = (gV τ30 22 0 12) from (show gV τ51 22 0 12 = (gV τ30 22 0 12) from gV_put eτ51 rfl))
        have q67 := kt_1
        have q68 := kt_20
        have q69 := kt_1
        refine m_callV (n := 3) (ci := 11) (st := [.int x58, .ref (G.1 23 0)]) C (c_X12_takeNumberE l G τ51 T N (tE T N (tE T N i)) (1) (20) (1) i52 v55 v57.1 (by omega)) (by decide) (by decide) rfl rfl rfl q5_7 q5_4 q5_6 q0_30 q1_7 (by decide +kernel) rfl (by decide) (by decide) rfl (Nat.le_of_ble_eq_true rfl) dX12_takePerson_83 ?_
        rintro _ τ70 ⟨x73, rfl, i71, f72, b74, h76⟩
        have g75 : Fr MS_X12_takePersonE AS_X12_takePersonE σ τ70 := Fr.call (f53) f72 (by decide)
        have v77 : CP (gV σ 23 0 152).toInt τ70 := v54.call (fun k => f72.1 23 0 k (by simp) (by decide))
        have v78 : TpM τ70 T N := v55.fr f72 (by decide) (by decide) (by simp) (by decide)
        have u79 : IV (gV τ70 22 0 11) 0 400 := i71.1 22 0 11
        have q80 : (gV τ70 22 0 6).toInt = (gV τ 22 0 6).toInt := congrArg Int32.toInt (show (gV τ70 22 0 6) = (gV τ 22 0 6) from (show gV τ70 22 0 6 = (gV τ 22 0 6) from (f72.1 22 0 (6) (by decide) (by decide)).trans (show gV τ51 22 0 6 = (gV τ 22 0 6) from gV_put eτ51 (show gV τ30 22 0 6 = (gV τ 22 0 6) from (f32.1 22 0 (6) (by decide) (by decide)).trans rfl))))
        have q81 : (gV τ70 23 0 150).toInt = (gV τ 23 0 150).toInt := congrArg Int32.toInt (show (gV τ70 23 0 150) = (gV τ 23 0 150) from (show gV τ70 23 0 150 = (gV τ 23 0 150) from (f72.1 23 0 (150) (by decide) (by decide)).trans (show gV τ51 23 0 150 = (gV τ 23 0 150) from (gV_putn eτ51 (Or.inr (Or.inr (by omega)))).trans (show gV τ30 23 0 150 = (gV τ 23 0 150) from (f32.1 23 0 (150) (by decide) (by decide)).trans rfl))))
        have q82 : (gV τ70 23 0 152).toInt = (gV τ 23 0 152).toInt := congrArg Int32.toInt (show (gV τ70 23 0 152) = (gV τ 23 0 152) from (show gV τ70 23 0 152 = (gV τ 23 0 152) from (f72.1 23 0 (152) (by decide) (by decide)).trans (show gV τ51 23 0 152 = (gV τ 23 0 152) from (gV_putn eτ51 (Or.inr (Or.inr (by omega)))).trans (show gV τ30 23 0 152 = (gV τ 23 0 152) from (f32.1 23 0 (152) (by decide) (by decide)).trans rfl))))
        have q83 : (gV τ70 23 0 188).toInt = (gV τ 23 0 188).toInt := congrArg Int32.toInt (show (gV τ70 23 0 188) = (gV τ 23 0 188) from (show gV τ70 23 0 188 = (gV τ 23 0 188) from (f72.1 23 0 (188) (by decide) (by decide)).trans (show gV τ51 23 0 188 = (gV τ 23 0 188) from (gV_putn eτ51 (Or.inr (Or.inr (by omega)))).trans (show gV τ30 23 0 188 = (gV τ 23 0 188) from (f32.1 23 0 (188) (by decide) (by decide)).trans rfl))))
        rcases h76 with ⟨h76_0, h76_1, h76_2, h76_3, h76_4⟩ | ⟨h76_0, h76_1, h76_2, h76_3, h76_4, h76_5, h76_6⟩ | ⟨h76_0, h76_1, h76_2, h76_3, h76_4, h76_5, h76_6⟩
        · skip
          have b84 : IV x73 (-1) (-1) := ⟨by omega, by omega⟩
          have b85 : IV (gV τ70 22 0 16) 1 1 := ⟨by omega, by omega⟩
          show MW p l e _ s m args below meth c _ 4 G 0 0 86 [some (.ref (G.1 22 0)), some (.int y1), some (.int z0), none] [.int x73, .int x58, .ref (G.1 23 0)] τ70
          refine as_23 C b59 (by decide) rfl dX12_takePerson_86 ?_
          refine m_tops (fun τ86 eτ86 => ?_)
          have i87 : Inv τ86 := eτ86 ▸ Inv.putRo i71 (by omega)
          have f88 : Fr MS_X12_takePersonE AS_X12_takePersonE σ τ86 := eτ86 ▸ Fr.put (g75) (Or.inr (by decide))
          have v89 : CP (gV σ 23 0 152).toInt τ86 := v77.put eτ86 (Or.inr (fun q hq => by omega))
          have v90 : TpM τ86 T N := v78.put eτ86 (Or.inl (by decide)) (by decide)
          refine m_aload_n C dX12_takePerson_87 rfl rfl ?_
          refine g_22_0 C q4_116 dX12_takePerson_88 ?_
          refine m_sipush (v := 167) C dX12_takePerson_91 (by decide) ?_
          refine m_iload_n C dX12_takePerson_94 rfl rfl ?_
          refine m_iadd C dX12_takePerson_95 ?_
          refine m_topi (fun x91 ex91 => ?_)
          have tx91 : x91.toInt = 167 + y1.toInt := by rw [ex91, ti_addv kc_167 b_y1 (by decide), kt_167]
          have b92 : IV x91 167 173 := by rw [ex91]; exact iv_add kc_167 b_y1 (by decide)
          refine m_aload_n C dX12_takePerson_96 rfl rfl ?_
          refine g_22_16 C q4_132 dX12_takePerson_97 ?_
          refine m_eqs (w := (gV τ70 22 0 16)) (show gV τ86 22 0 16 = (gV τ70 22 0 16) from gV_put eτ86 rfl) ?_
          refine m_if_ne (tgt := 113) C dX12_takePerson_100 (by decide) (fun c93 => ?_) (fun c93 => ?_)
          · have f94 : (gV τ70 22 0 16).toInt ≠ 0 := by
              have q : _ := c93
              simp only [ti_nle, ti_nlt, ti_le, ti_lt, ti_eq, ti_ne, Classical.not_not, kt_0] at q
              omega
            refine m_iconst (v := 0) C dX12_takePerson_113 (by decide) ?_
            refine as_23 C b92 (by decide) rfl dX12_takePerson_114 ?_
            refine m_tops (fun τ95 eτ95 => ?_)
            have i96 : Inv τ95 := eτ95 ▸ Inv.putR0 i87 (by omega) kt_0
            have f97 : Fr MS_X12_takePersonE AS_X12_takePersonE σ τ95 := eτ95 ▸ Fr.put (f88) (Or.inr (by decide))
            have v98 : CP (gV σ 23 0 152).toInt τ95 := v89.put eτ95 (Or.inr (fun q hq => by omega))
            have v99 : TpM τ95 T N := v90.put eτ95 (Or.inl (by decide)) (by decide)
            have q100 : (gV τ95 22 0 6).toInt = (gV τ 22 0 6).toInt := congrArg Int32.toInt (show (gV τ95 22 0 6) = (gV τ 22 0 6) from (show gV τ95 22 0 6 = (gV τ 22 0 6) from gV_put eτ95 (show gV τ86 22 0 6 = (gV τ 22 0 6) from gV_put eτ86 (show gV τ70 22 0 6 = (gV τ 22 0 6) from (f72.1 22 0 (6) (by decide) (by decide)).trans (show gV τ51 22 0 6 = (gV τ 22 0 6) from gV_put eτ51 (show gV τ30 22 0 6 = (gV τ 22 0 6) from (f32.1 22 0 (6) (by decide) (by decide)).trans rfl))))))
            have q101 : (gV τ95 23 0 150).toInt = (gV τ 23 0 150).toInt := congrArg Int32.toInt (show (gV τ95 23 0 150) = (gV τ 23 0 150) from (show gV τ95 23 0 150 = (gV τ 23 0 150) from (gV_putn eτ95 (Or.inr (Or.inr (by omega)))).trans (show gV τ86 23 0 150 = (gV τ 23 0 150) from (gV_putn eτ86 (Or.inr (Or.inr (by omega)))).trans (show gV τ70 23 0 150 = (gV τ 23 0 150) from (f72.1 23 0 (150) (by decide) (by decide)).trans (show gV τ51 23 0 150 = (gV τ 23 0 150) from (gV_putn eτ51 (Or.inr (Or.inr (by omega)))).trans (show gV τ30 23 0 150 = (gV τ 23 0 150) from (f32.1 23 0 (150) (by decide) (by decide)).trans rfl))))))
            have q102 : (gV τ95 23 0 152).toInt = (gV τ 23 0 152).toInt := congrArg Int32.toInt (show (gV τ95 23 0 152) = (gV τ 23 0 152) from (show gV τ95 23 0 152 = (gV τ 23 0 152) from (gV_putn eτ95 (Or.inr (Or.inr (by omega)))).trans (show gV τ86 23 0 152 = (gV τ 23 0 152) from (gV_putn eτ86 (Or.inr (Or.inr (by omega)))).trans (show gV τ70 23 0 152 = (gV τ 23 0 152) from (f72.1 23 0 (152) (by decide) (by decide)).trans (show gV τ51 23 0 152 = (gV τ 23 0 152) from (gV_putn eτ51 (Or.inr (Or.inr (by omega)))).trans (show gV τ30 23 0 152 = (gV τ 23 0 152) from (f32.1 23 0 (152) (by decide) (by decide)).trans rfl))))))
            have q103 : (gV τ95 23 0 188).toInt = (gV τ 23 0 188).toInt := congrArg Int32.toInt (show (gV τ95 23 0 188) = (gV τ 23 0 188) from (show gV τ95 23 0 188 = (gV τ 23 0 188) from (gV_putn eτ95 (Or.inr (Or.inr (by omega)))).trans (show gV τ86 23 0 188 = (gV τ 23 0 188) from (gV_putn eτ86 (Or.inr (Or.inr (by omega)))).trans (show gV τ70 23 0 188 = (gV τ 23 0 188) from (f72.1 23 0 (188) (by decide) (by decide)).trans (show gV τ51 23 0 188 = (gV τ 23 0 188) from (gV_putn eτ51 (Or.inr (Or.inr (by omega)))).trans (show gV τ30 23 0 188 = (gV τ 23 0 188) from (f32.1 23 0 (188) (by decide) (by decide)).trans rfl))))))
            have q104 : (gV τ95 22 0 11).toInt = (gV τ70 22 0 11).toInt := congrArg Int32.toInt (show (gV τ95 22 0 11) = (gV τ70 22 0 11) from (show gV τ95 22 0 11 = (gV τ70 22 0 11) from gV_put eτ95 (show gV τ86 22 0 11 = (gV τ70 22 0 11) from gV_put eτ86 rfl)))
            have q105 : (gV τ95 22 0 12).toInt = (gV τ70 22 0 12).toInt := congrArg Int32.toInt (show (gV τ95 22 0 12) = (gV τ70 22 0 12) from (show gV τ95 22 0 12 = (gV τ70 22 0 12) from gV_put eτ95 (show gV τ86 22 0 12 = (gV τ70 22 0 12) from gV_put eτ86 rfl)))
            have q106 : (gV τ95 22 0 16).toInt = (gV τ70 22 0 16).toInt := congrArg Int32.toInt (show (gV τ95 22 0 16) = (gV τ70 22 0 16) from (show gV τ95 22 0 16 = (gV τ70 22 0 16) from gV_put eτ95 (show gV τ86 22 0 16 = (gV τ70 22 0 16) from gV_put eτ86 rfl)))
            have v107 : CQ (gV σ 23 0 152).toInt.toNat τ95 := by
              intro q
              have q1 : gV τ95 23 0 (x91.toInt.toNat) = 0 := (show gV τ95 23 0 (x91.toInt.toNat) = 0 from gV_put eτ95 (gV_self _ _ _ _ _))
              rw [show 167 + (gV σ 23 0 152).toInt.toNat = (x91.toInt.toNat) by omega, q1]
              omega
            refine m_aload_n C dX12_takePerson_115 rfl rfl ?_
            refine g_22_16 C q4_132 dX12_takePerson_116 ?_
            refine m_eqs (w := (gV τ70 22 0 16)) (show gV τ95 22 0 16 = (gV τ70 22 0 16) from gV_put eτ95 (show gV τ86 22 0 16 = (gV τ70 22 0 16) from gV_put eτ86 rfl)) ?_
            refine m_if_ne (tgt := 142) C dX12_takePerson_119 (by decide) (fun c108 => ?_) (fun c108 => ?_)
            · have f109 : (gV τ70 22 0 16).toInt ≠ 0 := by
                have q : _ := c108
                simp only [ti_nle, ti_nlt, ti_le, ti_lt, ti_eq, ti_ne, Classical.not_not, kt_0] at q
                omega
              refine m_iconst (v := 0) C dX12_takePerson_142 (by decide) ?_
              refine m_istore_n (L1 := [some (.ref (G.1 22 0)), some (.int y1), some (.int z0), some (.int 0)]) C dX12_takePerson_143 rfl (by decide) rfl rfl ?_
              refine m_aload_n C dX12_takePerson_144 rfl rfl ?_
              refine g_22_0 C q4_116 dX12_takePerson_145 ?_
              refine m_sipush (v := 174) C dX12_takePerson_148 (by decide) ?_
              refine m_iload_n C dX12_takePerson_151 rfl rfl ?_
              refine m_iadd C dX12_takePerson_152 ?_
              refine m_topi (fun x110 ex110 => ?_)
              have tx110 : x110.toInt = 174 + y1.toInt := by rw [ex110, ti_addv kc_174 b_y1 (by decide), kt_174]
              have b111 : IV x110 174 180 := by rw [ex110]; exact iv_add kc_174 b_y1 (by decide)
              refine m_iload_n C dX12_takePerson_153 rfl rfl ?_
              refine m_bipush (v := 99) C dX12_takePerson_154 (by decide) ?_
              refine m_icmp_ne (tgt := 163) C dX12_takePerson_156 (by decide) (fun c112 => ?_) (fun c112 => ?_)
              · have f113 : 0 ≠ 99 := by
                  have q : _ := c112
                  simp only [ti_nle, ti_nlt, ti_le, ti_lt, ti_eq, ti_ne, Classical.not_not, kt_0, kt_99] at q
                  omega
                refine m_iload_n C dX12_takePerson_163 rfl rfl ?_
                refine as_23 C b111 (by decide) rfl dX12_takePerson_164 ?_
                refine m_tops (fun τ114 eτ114 => ?_)
                have i115 : Inv τ114 := eτ114 ▸ Inv.putR0 i96 (by omega) kt_0
                have f116 : Fr MS_X12_takePersonE AS_X12_takePersonE σ τ114 := eτ114 ▸ Fr.put (f97) (Or.inr (by decide))
                have v117 : CP (gV σ 23 0 152).toInt τ114 := v98.put eτ114 (Or.inr (fun q hq => by omega))
                have v118 : TpM τ114 T N := v99.put eτ114 (Or.inl (by decide)) (by decide)
                have v119 : CQ (gV σ 23 0 152).toInt.toNat τ114 := v107.put eτ114 (Or.inl (by decide)) (Or.inr (by omega))
                refine m_aload_n C dX12_takePerson_165 rfl rfl ?_
                refine g_22_0 C q4_116 dX12_takePerson_166 ?_
                refine m_sipush (v := 181) C dX12_takePerson_169 (by decide) ?_
                refine m_iload_n C dX12_takePerson_172 rfl rfl ?_
                refine m_iadd C dX12_takePerson_173 ?_
                refine m_topi (fun x120 ex120 => ?_)
                have tx120 : x120.toInt = 181 + y1.toInt := by rw [ex120, ti_addv kc_181 b_y1 (by decide), kt_181]
                have b121 : IV x120 181 187 := by rw [ex120]; exact iv_add kc_181 b_y1 (by decide)
                refine m_iconst (v := 0) C dX12_takePerson_174 (by decide) ?_
                refine as_23 C b121 (by decide) rfl dX12_takePerson_175 ?_
                refine m_tops (fun τ122 eτ122 => ?_)
                have i123 : Inv τ122 := eτ122 ▸ Inv.putR0 i115 (by omega) kt_0
                have f124 : Fr MS_X12_takePersonE AS_X12_takePersonE σ τ122 := eτ122 ▸ Fr.put (f116) (Or.inr (by decide))
                have v125 : CP (gV σ 23 0 152).toInt τ122 := v117.put eτ122 (Or.inr (fun q hq => by omega))
                have v126 : TpM τ122 T N := v118.put eτ122 (Or.inl (by decide)) (by decide)
                have v127 : CQ (gV σ 23 0 152).toInt.toNat τ122 := v119.put eτ122 (Or.inl (by decide)) (Or.inr (by omega))
                refine m_aload_n C dX12_takePerson_176 rfl rfl ?_
                refine g_22_0 C q4_116 dX12_takePerson_177 ?_
                refine m_sipush (v := 152) C dX12_takePerson_180 (by decide) ?_
                refine m_dup2 C dX12_takePerson_183 rfl rfl ?_
                refine al_23 C kc_152 (by decide) kn_152 dX12_takePerson_184 ?_
                refine m_eqs (w := (gV τ 23 0 152)) (show gV τ122 23 0 152 = (gV τ 23 0 152) from (gV_putn eτ122 (Or.inr (Or.inr (by omega)))).trans (show gV τ114 23 0 152 = (gV τ 23 0 152) from (gV_putn eτ114 (Or.inr (Or.inr (by omega)))).trans (show gV τ95 23 0 152 = (gV τ 23 0 152) from (gV_putn eτ95 (Or.inr (Or.inr (by omega)))).trans (show gV τ86 23 0 152 = (gV τ 23 0 152) from (gV_putn eτ86 (Or.inr (Or.inr (by omega)))).trans (show gV τ70 23 0 152 = (gV τ 23 0 152) from (f72.1 23 0 (152) (by decide) (by decide)).trans (show gV τ51 23 0 152 = (gV τ 23 0 152) from (gV_putn eτ51 (Or.inr (Or.inr (by omega)))).trans (show gV τ30 23 0 152 = (gV τ 23 0 152) from (f32.1 23 0 (152) (by decide) (by decide)).trans rfl))))))) ?_
                refine m_iconst (v := 1) C dX12_takePerson_185 (by decide) ?_
                have q128 : (gV τ122 22 0 6).toInt = (gV τ 22 0 6).toInt := congrArg Int32.toInt (show (gV τ122 22 0 6) = (gV τ 22 0 6) from (show gV τ122 22 0 6 = (gV τ 22 0 6) from gV_put eτ122 (show gV τ114 22 0 6 = (gV τ 22 0 6) from gV_put eτ114 (show gV τ95 22 0 6 = (gV τ 22 0 6) from gV_put eτ95 (show gV τ86 22 0 6 = (gV τ 22 0 6) from gV_put eτ86 (show gV τ70 22 0 6 = (gV τ 22 0 6) from (f72.1 22 0 (6) (by decide) (by decide)).trans (show gV τ51 22 0 6 = (gV τ 22 0 6) from gV_put eτ51 (show gV τ30 22 0 6 = (gV τ 22 0 6) from (f32.1 22 0 (6) (by decide) (by decide)).trans rfl))))))))
                have q129 : (gV τ122 23 0 150).toInt = (gV τ 23 0 150).toInt := congrArg Int32.toInt (show (gV τ122 23 0 150) = (gV τ 23 0 150) from (show gV τ122 23 0 150 = (gV τ 23 0 150) from (gV_putn eτ122 (Or.inr (Or.inr (by omega)))).trans (show gV τ114 23 0 150 = (gV τ 23 0 150) from (gV_putn eτ114 (Or.inr (Or.inr (by omega)))).trans (show gV τ95 23 0 150 = (gV τ 23 0 150) from (gV_putn eτ95 (Or.inr (Or.inr (by omega)))).trans (show gV τ86 23 0 150 = (gV τ 23 0 150) from (gV_putn eτ86 (Or.inr (Or.inr (by omega)))).trans (show gV τ70 23 0 150 = (gV τ 23 0 150) from (f72.1 23 0 (150) (by decide) (by decide)).trans (show gV τ51 23 0 150 = (gV τ 23 0 150) from (gV_putn eτ51 (Or.inr (Or.inr (by omega)))).trans (show gV τ30 23 0 150 = (gV τ 23 0 150) from (f32.1 23 0 (150) (by decide) (by decide)).trans rfl))))))))
                have q130 : (gV τ122 23 0 152).toInt = (gV τ 23 0 152).toInt := congrArg Int32.toInt (show (gV τ122 23 0 152) = (gV τ 23 0 152) from (show gV τ122 23 0 152 = (gV τ 23 0 152) from (gV_putn eτ122 (Or.inr (Or.inr (by omega)))).trans (show gV τ114 23 0 152 = (gV τ 23 0 152) from (gV_putn eτ114 (Or.inr (Or.inr (by omega)))).trans (show gV τ95 23 0 152 = (gV τ 23 0 152) from (gV_putn eτ95 (Or.inr (Or.inr (by omega)))).trans (show gV τ86 23 0 152 = (gV τ 23 0 152) from (gV_putn eτ86 (Or.inr (Or.inr (by omega)))).trans (show gV τ70 23 0 152 = (gV τ 23 0 152) from (f72.1 23 0 (152) (by decide) (by decide)).trans (show gV τ51 23 0 152 = (gV τ 23 0 152) from (gV_putn eτ51 (Or.inr (Or.inr (by omega)))).trans (show gV τ30 23 0 152 = (gV τ 23 0 152) from (f32.1 23 0 (152) (by decide) (by decide)).trans rfl))))))))
                have q131 : (gV τ122 23 0 188).toInt = (gV τ 23 0 188).toInt := congrArg Int32.toInt (show (gV τ122 23 0 188) = (gV τ 23 0 188) from (show gV τ122 23 0 188 = (gV τ 23 0 188) from (gV_putn eτ122 (Or.inr (Or.inr (by omega)))).trans (show gV τ114 23 0 188 = (gV τ 23 0 188) from (gV_putn eτ114 (Or.inr (Or.inr (by omega)))).trans (show gV τ95 23 0 188 = (gV τ 23 0 188) from (gV_putn eτ95 (Or.inr (Or.inr (by omega)))).trans (show gV τ86 23 0 188 = (gV τ 23 0 188) from (gV_putn eτ86 (Or.inr (Or.inr (by omega)))).trans (show gV τ70 23 0 188 = (gV τ 23 0 188) from (f72.1 23 0 (188) (by decide) (by decide)).trans (show gV τ51 23 0 188 = (gV τ 23 0 188) from (gV_putn eτ51 (Or.inr (Or.inr (by omega)))).trans (show gV τ30 23 0 188 = (gV τ 23 0 188) from (f32.1 23 0 (188) (by decide) (by decide)).trans rfl))))))))
                have q132 : (gV τ122 22 0 11).toInt = (gV τ70 22 0 11).toInt := congrArg Int32.toInt (show (gV τ122 22 0 11) = (gV τ70 22 0 11) from (show gV τ122 22 0 11 = (gV τ70 22 0 11) from gV_put eτ122 (show gV τ114 22 0 11 = (gV τ70 22 0 11) from gV_put eτ114 (show gV τ95 22 0 11 = (gV τ70 22 0 11) from gV_put eτ95 (show gV τ86 22 0 11 = (gV τ70 22 0 11) from gV_put eτ86 rfl)))))
                have q133 : (gV τ122 22 0 12).toInt = (gV τ70 22 0 12).toInt := congrArg Int32.toInt (show (gV τ122 22 0 12) = (gV τ70 22 0 12) from (show gV τ122 22 0 12 = (gV τ70 22 0 12) from gV_put eτ122 (show gV τ114 22 0 12 = (gV τ70 22 0 12) from gV_put eτ114 (show gV τ95 22 0 12 = (gV τ70 22 0 12) from gV_put eτ95 (show gV τ86 22 0 12 = (gV τ70 22 0 12) from gV_put eτ86 rfl)))))
                have q134 : (gV τ122 22 0 16).toInt = (gV τ70 22 0 16).toInt := congrArg Int32.toInt (show (gV τ122 22 0 16) = (gV τ70 22 0 16) from (show gV τ122 22 0 16 = (gV τ70 22 0 16) from gV_put eτ122 (show gV τ114 22 0 16 = (gV τ70 22 0 16) from gV_put eτ114 (show gV τ95 22 0 16 = (gV τ70 22 0 16) from gV_put eτ95 (show gV τ86 22 0 16 = (gV τ70 22 0 16) from gV_put eτ86 rfl)))))
                have b135 : IV (gV τ 23 0 152) 0 6 := ⟨by have q1 := u3; omega, by have q1 := u3; omega⟩
                refine m_iadd C dX12_takePerson_186 ?_
                refine m_topi (fun x136 ex136 => ?_)
                have tx136 : x136.toInt = (gV τ 23 0 152).toInt + 1 := by rw [ex136, ti_addv b135 kc_1 (by decide), kt_1]
                have b137 : IV x136 1 7 := by rw [ex136]; exact iv_add b135 kc_1 (by decide)
                refine as_23 C kc_152 (by decide) kn_152 dX12_takePerson_187 ?_
                refine m_tops (fun τ138 eτ138 => ?_)
                have i139 : Inv τ138 := eτ138 ▸ Inv.putR i123 (by decide) (iv_wk b137 (by decide))
                have f140 : Fr MS_X12_takePersonE AS_X12_takePersonE σ τ138 := eτ138 ▸ Fr.put (f124) (Or.inr (by decide))
                have v141 : CP (gV σ 23 0 152).toInt τ138 := v125.put eτ138 (Or.inr (fun q hq => by omega))
                have v142 : TpM τ138 T N := v126.put eτ138 (Or.inl (by decide)) (by decide)
                have v143 : CQ (gV σ 23 0 152).toInt.toNat τ138 := v127.put eτ138 (Or.inl (by decide)) (Or.inr (by omega))
                refine m_aload_n C dX12_takePerson_188 rfl rfl ?_
                have q144 : (gV τ138 22 0 6).toInt = (gV τ 22 0 6).toInt := congrArg Int32.toInt (show (gV τ138 22 0 6) = (gV τ 22 0 6) from (show gV τ138 22 0 6 = (gV τ 22 0 6) from gV_put eτ138 (show gV τ122 22 0 6 = (gV τ 22 0 6) from gV_put eτ122 (show gV τ114 22 0 6 = (gV τ 22 0 6) from gV_put eτ114 (show gV τ95 22 0 6 = (gV τ 22 0 6) from gV_put eτ95 (show gV τ86 22 0 6 = (gV τ 22 0 6) from gV_put eτ86 (show gV τ70 22 0 6 = (gV τ 22 0 6) from (f72.1 22 0 (6) (by decide) (by decide)).trans (show gV τ51 22 0 6 = (gV τ 22 0 6) from gV_put eτ51 (show gV τ30 22 0 6 = (gV τ 22 0 6) from (f32.1 22 0 (6) (by decide) (by decide)).trans rfl)))))))))
                have q145 : (gV τ138 23 0 150).toInt = (gV τ 23 0 150).toInt := congrArg Int32.toInt (show (gV τ138 23 0 150) = (gV τ 23 0 150) from (show gV τ138 23 0 150 = (gV τ 23 0 150) from gV_put eτ138 (show gV τ122 23 0 150 = (gV τ 23 0 150) from (gV_putn eτ122 (Or.inr (Or.inr (by omega)))).trans (show gV τ114 23 0 150 = (gV τ 23 0 150) from (gV_putn eτ114 (Or.inr (Or.inr (by omega)))).trans (show gV τ95 23 0 150 = (gV τ 23 0 150) from (gV_putn eτ95 (Or.inr (Or.inr (by omega)))).trans (show gV τ86 23 0 150 = (gV τ 23 0 150) from (gV_putn eτ86 (Or.inr (Or.inr (by omega)))).trans (show gV τ70 23 0 150 = (gV τ 23 0 150) from (f72.1 23 0 (150) (by decide) (by decide)).trans (show gV τ51 23 0 150 = (gV τ 23 0 150) from (gV_putn eτ51 (Or.inr (Or.inr (by omega)))).trans (show gV τ30 23 0 150 = (gV τ 23 0 150) from (f32.1 23 0 (150) (by decide) (by decide)).trans rfl)))))))))
                have q146 : (gV τ138 23 0 188).toInt = (gV τ 23 0 188).toInt := congrArg Int32.toInt (show (gV τ138 23 0 188) = (gV τ 23 0 188) from (show gV τ138 23 0 188 = (gV τ 23 0 188) from gV_put eτ138 (show gV τ122 23 0 188 = (gV τ 23 0 188) from (gV_putn eτ122 (Or.inr (Or.inr (by omega)))).trans (show gV τ114 23 0 188 = (gV τ 23 0 188) from (gV_putn eτ114 (Or.inr (Or.inr (by omega)))).trans (show gV τ95 23 0 188 = (gV τ 23 0 188) from (gV_putn eτ95 (Or.inr (Or.inr (by omega)))).trans (show gV τ86 23 0 188 = (gV τ 23 0 188) from (gV_putn eτ86 (Or.inr (Or.inr (by omega)))).trans (show gV τ70 23 0 188 = (gV τ 23 0 188) from (f72.1 23 0 (188) (by decide) (by decide)).trans (show gV τ51 23 0 188 = (gV τ 23 0 188) from (gV_putn eτ51 (Or.inr (Or.inr (by omega)))).trans (show gV τ30 23 0 188 = (gV τ 23 0 188) from (f32.1 23 0 (188) (by decide) (by decide)).trans rfl)))))))))
                have q147 : (gV τ138 22 0 11).toInt = (gV τ70 22 0 11).toInt := congrArg Int32.toInt (show (gV τ138 22 0 11) = (gV τ70 22 0 11) from (show gV τ138 22 0 11 = (gV τ70 22 0 11) from gV_put eτ138 (show gV τ122 22 0 11 = (gV τ70 22 0 11) from gV_put eτ122 (show gV τ114 22 0 11 = (gV τ70 22 0 11) from gV_put eτ114 (show gV τ95 22 0 11 = (gV τ70 22 0 11) from gV_put eτ95 (show gV τ86 22 0 11 = (gV τ70 22 0 11) from gV_put eτ86 rfl))))))
                have q148 : (gV τ138 22 0 12).toInt = (gV τ70 22 0 12).toInt := congrArg Int32.toInt (show (gV τ138 22 0 12) = (gV τ70 22 0 12) from (show gV τ138 22 0 12 = (gV τ70 22 0 12) from gV_put eτ138 (show gV τ122 22 0 12 = (gV τ70 22 0 12) from gV_put eτ122 (show gV τ114 22 0 12 = (gV τ70 22 0 12) from gV_put eτ114 (show gV τ95 22 0 12 = (gV τ70 22 0 12) from gV_put eτ95 (show gV τ86 22 0 12 = (gV τ70 22 0 12) from gV_put eτ86 rfl))))))
                have q149 : (gV τ138 22 0 16).toInt = (gV τ70 22 0 16).toInt := congrArg Int32.toInt (show (gV τ138 22 0 16) = (gV τ70 22 0 16) from (show gV τ138 22 0 16 = (gV τ70 22 0 16) from gV_put eτ138 (show gV τ122 22 0 16 = (gV τ70 22 0 16) from gV_put eτ122 (show gV τ114 22 0 16 = (gV τ70 22 0 16) from gV_put eτ114 (show gV τ95 22 0 16 = (gV τ70 22 0 16) from gV_put eτ95 (show gV τ86 22 0 16 = (gV τ70 22 0 16) from gV_put eτ86 rfl))))))
                have q150 : (gV τ138 23 0 152).toInt = x136.toInt := congrArg Int32.toInt (show (gV τ138 23 0 152) = x136 from (show gV τ138 23 0 152 = x136 from gV_put eτ138 (gV_self _ _ _ _ _)))
                refine m_callV (n := 0) (ci := 11) (st := []) C (c_X12_takeSignE l G τ138 T N (tE T N (tE T N (tE T N i)))  i139 v142 (fun h => absurd h (by omega)) (by omega)) (by decide) (by decide) rfl rfl rfl q5_15 q5_12 q5_14 q0_32 q1_7 (by decide +kernel) rfl (by decide) (by decide) rfl (Nat.le_of_ble_eq_true rfl) dX12_takePerson_189 ?_
                rintro _ τ151 ⟨rfl, i152, f153, h157⟩
                have g156 : Fr MS_X12_takePersonE AS_X12_takePersonE σ τ151 := Fr.call (f140) f153 (by decide)
                have v158 : CP (gV σ 23 0 152).toInt τ151 := v141.call (fun k => f153.1 23 0 k (by simp) (by decide))
                have v159 : TpM τ151 T N := v142.fr f153 (by decide) (by decide) (by simp) (by decide)
                have u160 : IV (gV τ151 22 0 11) 0 400 := i152.1 22 0 11
                have q161 : (gV τ151 22 0 6).toInt = (gV τ 22 0 6).toInt := congrArg Int32.toInt (show (gV τ151 22 0 6) = (gV τ 22 0 6) from (show gV τ151 22 0 6 = (gV τ 22 0 6) from (f153.1 22 0 (6) (by decide) (by decide)).trans (show gV τ138 22 0 6 = (gV τ 22 0 6) from gV_put eτ138 (show gV τ122 22 0 6 = (gV τ 22 0 6) from gV_put eτ122 (show gV τ114 22 0 6 = (gV τ 22 0 6) from gV_put eτ114 (show gV τ95 22 0 6 = (gV τ 22 0 6) from gV_put eτ95 (show gV τ86 22 0 6 = (gV τ 22 0 6) from gV_put eτ86 (show gV τ70 22 0 6 = (gV τ 22 0 6) from (f72.1 22 0 (6) (by decide) (by decide)).trans (show gV τ51 22 0 6 = (gV τ 22 0 6) from gV_put eτ51 (show gV τ30 22 0 6 = (gV τ 22 0 6) from (f32.1 22 0 (6) (by decide) (by decide)).trans rfl))))))))))
                have q162 : (gV τ151 23 0 150).toInt = (gV τ 23 0 150).toInt := congrArg Int32.toInt (show (gV τ151 23 0 150) = (gV τ 23 0 150) from (show gV τ151 23 0 150 = (gV τ 23 0 150) from (f153.1 23 0 (150) (by decide) (by decide)).trans (show gV τ138 23 0 150 = (gV τ 23 0 150) from gV_put eτ138 (show gV τ122 23 0 150 = (gV τ 23 0 150) from (gV_putn eτ122 (Or.inr (Or.inr (by omega)))).trans (show gV τ114 23 0 150 = (gV τ 23 0 150) from (gV_putn eτ114 (Or.inr (Or.inr (by omega)))).trans (show gV τ95 23 0 150 = (gV τ 23 0 150) from (gV_putn eτ95 (Or.inr (Or.inr (by omega)))).trans (show gV τ86 23 0 150 = (gV τ 23 0 150) from (gV_putn eτ86 (Or.inr (Or.inr (by omega)))).trans (show gV τ70 23 0 150 = (gV τ 23 0 150) from (f72.1 23 0 (150) (by decide) (by decide)).trans (show gV τ51 23 0 150 = (gV τ 23 0 150) from (gV_putn eτ51 (Or.inr (Or.inr (by omega)))).trans (show gV τ30 23 0 150 = (gV τ 23 0 150) from (f32.1 23 0 (150) (by decide) (by decide)).trans rfl))))))))))
                have q163 : (gV τ151 23 0 188).toInt = (gV τ 23 0 188).toInt := congrArg Int32.toInt (show (gV τ151 23 0 188) = (gV τ 23 0 188) from (show gV τ151 23 0 188 = (gV τ 23 0 188) from (f153.1 23 0 (188) (by decide) (by decide)).trans (show gV τ138 23 0 188 = (gV τ 23 0 188) from gV_put eτ138 (show gV τ122 23 0 188 = (gV τ 23 0 188) from (gV_putn eτ122 (Or.inr (Or.inr (by omega)))).trans (show gV τ114 23 0 188 = (gV τ 23 0 188) from (gV_putn eτ114 (Or.inr (Or.inr (by omega)))).trans (show gV τ95 23 0 188 = (gV τ 23 0 188) from (gV_putn eτ95 (Or.inr (Or.inr (by omega)))).trans (show gV τ86 23 0 188 = (gV τ 23 0 188) from (gV_putn eτ86 (Or.inr (Or.inr (by omega)))).trans (show gV τ70 23 0 188 = (gV τ 23 0 188) from (f72.1 23 0 (188) (by decide) (by decide)).trans (show gV τ51 23 0 188 = (gV τ 23 0 188) from (gV_putn eτ51 (Or.inr (Or.inr (by omega)))).trans (show gV τ30 23 0 188 = (gV τ 23 0 188) from (f32.1 23 0 (188) (by decide) (by decide)).trans rfl))))))))))
                have q164 : (gV τ151 23 0 152).toInt = x136.toInt := congrArg Int32.toInt (show (gV τ151 23 0 152) = x136 from (show gV τ151 23 0 152 = x136 from (f153.1 23 0 (152) (by decide) (by decide)).trans (show gV τ138 23 0 152 = x136 from gV_put eτ138 (gV_self _ _ _ _ _))))
                rcases h157 with ⟨h157_0, h157_1, h157_2, h157_3⟩ | ⟨h157_0, h157_1, h157_2, h157_3, h157_4⟩ | ⟨h157_0, h157_1, h157_2, h157_3, h157_4, h157_5⟩
                · skip
                  have v165 : CQ (gV σ 23 0 152).toInt.toNat τ151 := v143.call (fun q => by omega) (fun k => f153.1 23 0 k (by simp) (by decide))
                  show MW p l e _ s m args below meth c _ 4 G 0 0 192 [some (.ref (G.1 22 0)), some (.int y1), some (.int z0), some (.int 0)] [] τ151
                  exact m_vret C hr hlk (by decide) (by decide) dX12_takePerson_192 ⟨rfl, i152, g156, (by have qd := per_2 T N st cc i (by omega) (by omega) (by omega); exact Or.inl ⟨by omega, by omega, by omega, by omega, by omega, by omega⟩)⟩
                · skip
                  exfalso; omega
                · skip
                  exfalso; omega
              · first | exact absurd c112 (by decide) | exact absurd (by decide) c112
            · exfalso
              have q : _ := c108
              simp only [ti_nle, ti_nlt, ti_le, ti_lt, ti_eq, ti_ne, Classical.not_not, kt_0] at q
              have q1 := b85; have q2 := kc_0; omega
          · exfalso
            have q : _ := c93
            simp only [ti_nle, ti_nlt, ti_le, ti_lt, ti_eq, ti_ne, Classical.not_not, kt_0] at q
            have q1 := b85; have q2 := kc_0; omega
        · skip
          have b169 : IV x73 (-1) (-1) := ⟨by omega, by omega⟩
          have b170 : IV (gV τ70 22 0 16) 2 2 := ⟨by omega, by omega⟩
          show MW p l e _ s m args below meth c _ 4 G 0 0 86 [some (.ref (G.1 22 0)), some (.int y1), some (.int z0), none] [.int x73, .int x58, .ref (G.1 23 0)] τ70
          refine as_23 C b59 (by decide) rfl dX12_takePerson_86 ?_
          refine m_tops (fun τ171 eτ171 => ?_)
          have i172 : Inv τ171 := eτ171 ▸ Inv.putRo i71 (by omega)
          have f173 : Fr MS_X12_takePersonE AS_X12_takePersonE σ τ171 := eτ171 ▸ Fr.put (g75) (Or.inr (by decide))
          have v174 : CP (gV σ 23 0 152).toInt τ171 := v77.put eτ171 (Or.inr (fun q hq => by omega))
          have v175 : TpM τ171 T N := v78.put eτ171 (Or.inl (by decide)) (by decide)
          refine m_aload_n C dX12_takePerson_87 rfl rfl ?_
          refine g_22_0 C q4_116 dX12_takePerson_88 ?_
          refine m_sipush (v := 167) C dX12_takePerson_91 (by decide) ?_
          refine m_iload_n C dX12_takePerson_94 rfl rfl ?_
          refine m_iadd C dX12_takePerson_95 ?_
          refine m_topi (fun x176 ex176 => ?_)
          have tx176 : x176.toInt = 167 + y1.toInt := by rw [ex176, ti_addv kc_167 b_y1 (by decide), kt_167]
          have b177 : IV x176 167 173 := by rw [ex176]; exact iv_add kc_167 b_y1 (by decide)
          refine m_aload_n C dX12_takePerson_96 rfl rfl ?_
          refine g_22_16 C q4_132 dX12_takePerson_97 ?_
          refine m_eqs (w := (gV τ70 22 0 16)) (show gV τ171 22 0 16 = (gV τ70 22 0 16) from gV_put eτ171 rfl) ?_
          refine m_if_ne (tgt := 113) C dX12_takePerson_100 (by decide) (fun c178 => ?_) (fun c178 => ?_)
          · have f179 : (gV τ70 22 0 16).toInt ≠ 0 := by
              have q : _ := c178
              simp only [ti_nle, ti_nlt, ti_le, ti_lt, ti_eq, ti_ne, Classical.not_not, kt_0] at q
              omega
            refine m_iconst (v := 0) C dX12_takePerson_113 (by decide) ?_
            refine as_23 C b177 (by decide) rfl dX12_takePerson_114 ?_
            refine m_tops (fun τ180 eτ180 => ?_)
            have i181 : Inv τ180 := eτ180 ▸ Inv.putR0 i172 (by omega) kt_0
            have f182 : Fr MS_X12_takePersonE AS_X12_takePersonE σ τ180 := eτ180 ▸ Fr.put (f173) (Or.inr (by decide))
            have v183 : CP (gV σ 23 0 152).toInt τ180 := v174.put eτ180 (Or.inr (fun q hq => by omega))
            have v184 : TpM τ180 T N := v175.put eτ180 (Or.inl (by decide)) (by decide)
            have q185 : (gV τ180 22 0 6).toInt = (gV τ 22 0 6).toInt := congrArg Int32.toInt (show (gV τ180 22 0 6) = (gV τ 22 0 6) from (show gV τ180 22 0 6 = (gV τ 22 0 6) from gV_put eτ180 (show gV τ171 22 0 6 = (gV τ 22 0 6) from gV_put eτ171 (show gV τ70 22 0 6 = (gV τ 22 0 6) from (f72.1 22 0 (6) (by decide) (by decide)).trans (show gV τ51 22 0 6 = (gV τ 22 0 6) from gV_put eτ51 (show gV τ30 22 0 6 = (gV τ 22 0 6) from (f32.1 22 0 (6) (by decide) (by decide)).trans rfl))))))
            have q186 : (gV τ180 23 0 150).toInt = (gV τ 23 0 150).toInt := congrArg Int32.toInt (show (gV τ180 23 0 150) = (gV τ 23 0 150) from (show gV τ180 23 0 150 = (gV τ 23 0 150) from (gV_putn eτ180 (Or.inr (Or.inr (by omega)))).trans (show gV τ171 23 0 150 = (gV τ 23 0 150) from (gV_putn eτ171 (Or.inr (Or.inr (by omega)))).trans (show gV τ70 23 0 150 = (gV τ 23 0 150) from (f72.1 23 0 (150) (by decide) (by decide)).trans (show gV τ51 23 0 150 = (gV τ 23 0 150) from (gV_putn eτ51 (Or.inr (Or.inr (by omega)))).trans (show gV τ30 23 0 150 = (gV τ 23 0 150) from (f32.1 23 0 (150) (by decide) (by decide)).trans rfl))))))
            have q187 : (gV τ180 23 0 152).toInt = (gV τ 23 0 152).toInt := congrArg Int32.toInt (show (gV τ180 23 0 152) = (gV τ 23 0 152) from (show gV τ180 23 0 152 = (gV τ 23 0 152) from (gV_putn eτ180 (Or.inr (Or.inr (by omega)))).trans (show gV τ171 23 0 152 = (gV τ 23 0 152) from (gV_putn eτ171 (Or.inr (Or.inr (by omega)))).trans (show gV τ70 23 0 152 = (gV τ 23 0 152) from (f72.1 23 0 (152) (by decide) (by decide)).trans (show gV τ51 23 0 152 = (gV τ 23 0 152) from (gV_putn eτ51 (Or.inr (Or.inr (by omega)))).trans (show gV τ30 23 0 152 = (gV τ 23 0 152) from (f32.1 23 0 (152) (by decide) (by decide)).trans rfl))))))
            have q188 : (gV τ180 23 0 188).toInt = (gV τ 23 0 188).toInt := congrArg Int32.toInt (show (gV τ180 23 0 188) = (gV τ 23 0 188) from (show gV τ180 23 0 188 = (gV τ 23 0 188) from (gV_putn eτ180 (Or.inr (Or.inr (by omega)))).trans (show gV τ171 23 0 188 = (gV τ 23 0 188) from (gV_putn eτ171 (Or.inr (Or.inr (by omega)))).trans (show gV τ70 23 0 188 = (gV τ 23 0 188) from (f72.1 23 0 (188) (by decide) (by decide)).trans (show gV τ51 23 0 188 = (gV τ 23 0 188) from (gV_putn eτ51 (Or.inr (Or.inr (by omega)))).trans (show gV τ30 23 0 188 = (gV τ 23 0 188) from (f32.1 23 0 (188) (by decide) (by decide)).trans rfl))))))
            have q189 : (gV τ180 22 0 11).toInt = (gV τ70 22 0 11).toInt := congrArg Int32.toInt (show (gV τ180 22 0 11) = (gV τ70 22 0 11) from (show gV τ180 22 0 11 = (gV τ70 22 0 11) from gV_put eτ180 (show gV τ171 22 0 11 = (gV τ70 22 0 11) from gV_put eτ171 rfl)))
            have q190 : (gV τ180 22 0 12).toInt = (gV τ70 22 0 12).toInt := congrArg Int32.toInt (show (gV τ180 22 0 12) = (gV τ70 22 0 12) from (show gV τ180 22 0 12 = (gV τ70 22 0 12) from gV_put eτ180 (show gV τ171 22 0 12 = (gV τ70 22 0 12) from gV_put eτ171 rfl)))
            have q191 : (gV τ180 22 0 16).toInt = (gV τ70 22 0 16).toInt := congrArg Int32.toInt (show (gV τ180 22 0 16) = (gV τ70 22 0 16) from (show gV τ180 22 0 16 = (gV τ70 22 0 16) from gV_put eτ180 (show gV τ171 22 0 16 = (gV τ70 22 0 16) from gV_put eτ171 rfl)))
            have v192 : CQ (gV σ 23 0 152).toInt.toNat τ180 := by
              intro q
              have q1 : gV τ180 23 0 (x176.toInt.toNat) = 0 := (show gV τ180 23 0 (x176.toInt.toNat) = 0 from gV_put eτ180 (gV_self _ _ _ _ _))
              rw [show 167 + (gV σ 23 0 152).toInt.toNat = (x176.toInt.toNat) by omega, q1]
              omega
            refine m_aload_n C dX12_takePerson_115 rfl rfl ?_
            refine g_22_16 C q4_132 dX12_takePerson_116 ?_
            refine m_eqs (w := (gV τ70 22 0 16)) (show gV τ180 22 0 16 = (gV τ70 22 0 16) from gV_put eτ180 (show gV τ171 22 0 16 = (gV τ70 22 0 16) from gV_put eτ171 rfl)) ?_
            refine m_if_ne (tgt := 142) C dX12_takePerson_119 (by decide) (fun c193 => ?_) (fun c193 => ?_)
            · have f194 : (gV τ70 22 0 16).toInt ≠ 0 := by
                have q : _ := c193
                simp only [ti_nle, ti_nlt, ti_le, ti_lt, ti_eq, ti_ne, Classical.not_not, kt_0] at q
                omega
              refine m_iconst (v := 0) C dX12_takePerson_142 (by decide) ?_
              refine m_istore_n (L1 := [some (.ref (G.1 22 0)), some (.int y1), some (.int z0), some (.int 0)]) C dX12_takePerson_143 rfl (by decide) rfl rfl ?_
              refine m_aload_n C dX12_takePerson_144 rfl rfl ?_
              refine g_22_0 C q4_116 dX12_takePerson_145 ?_
              refine m_sipush (v := 174) C dX12_takePerson_148 (by decide) ?_
              refine m_iload_n C dX12_takePerson_151 rfl rfl ?_
              refine m_iadd C dX12_takePerson_152 ?_
              refine m_topi (fun x195 ex195 => ?_)
              have tx195 : x195.toInt = 174 + y1.toInt := by rw [ex195, ti_addv kc_174 b_y1 (by decide), kt_174]
              have b196 : IV x195 174 180 := by rw [ex195]; exact iv_add kc_174 b_y1 (by decide)
              refine m_iload_n C dX12_takePerson_153 rfl rfl ?_
              refine m_bipush (v := 99) C dX12_takePerson_154 (by decide) ?_
              refine m_icmp_ne (tgt := 163) C dX12_takePerson_156 (by decide) (fun c197 => ?_) (fun c197 => ?_)
              · have f198 : 0 ≠ 99 := by
                  have q : _ := c197
                  simp only [ti_nle, ti_nlt, ti_le, ti_lt, ti_eq, ti_ne, Classical.not_not, kt_0, kt_99] at q
                  omega
                refine m_iload_n C dX12_takePerson_163 rfl rfl ?_
                refine as_23 C b196 (by decide) rfl dX12_takePerson_164 ?_
                refine m_tops (fun τ199 eτ199 => ?_)
                have i200 : Inv τ199 := eτ199 ▸ Inv.putR0 i181 (by omega) kt_0
                have f201 : Fr MS_X12_takePersonE AS_X12_takePersonE σ τ199 := eτ199 ▸ Fr.put (f182) (Or.inr (by decide))
                have v202 : CP (gV σ 23 0 152).toInt τ199 := v183.put eτ199 (Or.inr (fun q hq => by omega))
                have v203 : TpM τ199 T N := v184.put eτ199 (Or.inl (by decide)) (by decide)
                have v204 : CQ (gV σ 23 0 152).toInt.toNat τ199 := v192.put eτ199 (Or.inl (by decide)) (Or.inr (by omega))
                refine m_aload_n C dX12_takePerson_165 rfl rfl ?_
                refine g_22_0 C q4_116 dX12_takePerson_166 ?_
                refine m_sipush (v := 181) C dX12_takePerson_169 (by decide) ?_
                refine m_iload_n C dX12_takePerson_172 rfl rfl ?_
                refine m_iadd C dX12_takePerson_173 ?_
                refine m_topi (fun x205 ex205 => ?_)
                have tx205 : x205.toInt = 181 + y1.toInt := by rw [ex205, ti_addv kc_181 b_y1 (by decide), kt_181]
                have b206 : IV x205 181 187 := by rw [ex205]; exact iv_add kc_181 b_y1 (by decide)
                refine m_iconst (v := 0) C dX12_takePerson_174 (by decide) ?_
                refine as_23 C b206 (by decide) rfl dX12_takePerson_175 ?_
                refine m_tops (fun τ207 eτ207 => ?_)
                have i208 : Inv τ207 := eτ207 ▸ Inv.putR0 i200 (by omega) kt_0
                have f209 : Fr MS_X12_takePersonE AS_X12_takePersonE σ τ207 := eτ207 ▸ Fr.put (f201) (Or.inr (by decide))
                have v210 : CP (gV σ 23 0 152).toInt τ207 := v202.put eτ207 (Or.inr (fun q hq => by omega))
                have v211 : TpM τ207 T N := v203.put eτ207 (Or.inl (by decide)) (by decide)
                have v212 : CQ (gV σ 23 0 152).toInt.toNat τ207 := v204.put eτ207 (Or.inl (by decide)) (Or.inr (by omega))
                refine m_aload_n C dX12_takePerson_176 rfl rfl ?_
                refine g_22_0 C q4_116 dX12_takePerson_177 ?_
                refine m_sipush (v := 152) C dX12_takePerson_180 (by decide) ?_
                refine m_dup2 C dX12_takePerson_183 rfl rfl ?_
                refine al_23 C kc_152 (by decide) kn_152 dX12_takePerson_184 ?_
                refine m_eqs (w := (gV τ 23 0 152)) (show gV τ207 23 0 152 = (gV τ 23 0 152) from (gV_putn eτ207 (Or.inr (Or.inr (by omega)))).trans (show gV τ199 23 0 152 = (gV τ 23 0 152) from (gV_putn eτ199 (Or.inr (Or.inr (by omega)))).trans (show gV τ180 23 0 152 = (gV τ 23 0 152) from (gV_putn eτ180 (Or.inr (Or.inr (by omega)))).trans (show gV τ171 23 0 152 = (gV τ 23 0 152) from (gV_putn eτ171 (Or.inr (Or.inr (by omega)))).trans (show gV τ70 23 0 152 = (gV τ 23 0 152) from (f72.1 23 0 (152) (by decide) (by decide)).trans (show gV τ51 23 0 152 = (gV τ 23 0 152) from (gV_putn eτ51 (Or.inr (Or.inr (by omega)))).trans (show gV τ30 23 0 152 = (gV τ 23 0 152) from (f32.1 23 0 (152) (by decide) (by decide)).trans rfl))))))) ?_
                refine m_iconst (v := 1) C dX12_takePerson_185 (by decide) ?_
                have q213 : (gV τ207 22 0 6).toInt = (gV τ 22 0 6).toInt := congrArg Int32.toInt (show (gV τ207 22 0 6) = (gV τ 22 0 6) from (show gV τ207 22 0 6 = (gV τ 22 0 6) from gV_put eτ207 (show gV τ199 22 0 6 = (gV τ 22 0 6) from gV_put eτ199 (show gV τ180 22 0 6 = (gV τ 22 0 6) from gV_put eτ180 (show gV τ171 22 0 6 = (gV τ 22 0 6) from gV_put eτ171 (show gV τ70 22 0 6 = (gV τ 22 0 6) from (f72.1 22 0 (6) (by decide) (by decide)).trans (show gV τ51 22 0 6 = (gV τ 22 0 6) from gV_put eτ51 (show gV τ30 22 0 6 = (gV τ 22 0 6) from (f32.1 22 0 (6) (by decide) (by decide)).trans rfl))))))))
                have q214 : (gV τ207 23 0 150).toInt = (gV τ 23 0 150).toInt := congrArg Int32.toInt (show (gV τ207 23 0 150) = (gV τ 23 0 150) from (show gV τ207 23 0 150 = (gV τ 23 0 150) from (gV_putn eτ207 (Or.inr (Or.inr (by omega)))).trans (show gV τ199 23 0 150 = (gV τ 23 0 150) from (gV_putn eτ199 (Or.inr (Or.inr (by omega)))).trans (show gV τ180 23 0 150 = (gV τ 23 0 150) from (gV_putn eτ180 (Or.inr (Or.inr (by omega)))).trans (show gV τ171 23 0 150 = (gV τ 23 0 150) from (gV_putn eτ171 (Or.inr (Or.inr (by omega)))).trans (show gV τ70 23 0 150 = (gV τ 23 0 150) from (f72.1 23 0 (150) (by decide) (by decide)).trans (show gV τ51 23 0 150 = (gV τ 23 0 150) from (gV_putn eτ51 (Or.inr (Or.inr (by omega)))).trans (show gV τ30 23 0 150 = (gV τ 23 0 150) from (f32.1 23 0 (150) (by decide) (by decide)).trans rfl))))))))
                have q215 : (gV τ207 23 0 152).toInt = (gV τ 23 0 152).toInt := congrArg Int32.toInt (show (gV τ207 23 0 152) = (gV τ 23 0 152) from (show gV τ207 23 0 152 = (gV τ 23 0 152) from (gV_putn eτ207 (Or.inr (Or.inr (by omega)))).trans (show gV τ199 23 0 152 = (gV τ 23 0 152) from (gV_putn eτ199 (Or.inr (Or.inr (by omega)))).trans (show gV τ180 23 0 152 = (gV τ 23 0 152) from (gV_putn eτ180 (Or.inr (Or.inr (by omega)))).trans (show gV τ171 23 0 152 = (gV τ 23 0 152) from (gV_putn eτ171 (Or.inr (Or.inr (by omega)))).trans (show gV τ70 23 0 152 = (gV τ 23 0 152) from (f72.1 23 0 (152) (by decide) (by decide)).trans (show gV τ51 23 0 152 = (gV τ 23 0 152) from (gV_putn eτ51 (Or.inr (Or.inr (by omega)))).trans (show gV τ30 23 0 152 = (gV τ 23 0 152) from (f32.1 23 0 (152) (by decide) (by decide)).trans rfl))))))))
                have q216 : (gV τ207 23 0 188).toInt = (gV τ 23 0 188).toInt := congrArg Int32.toInt (show (gV τ207 23 0 188) = (gV τ 23 0 188) from (show gV τ207 23 0 188 = (gV τ 23 0 188) from (gV_putn eτ207 (Or.inr (Or.inr (by omega)))).trans (show gV τ199 23 0 188 = (gV τ 23 0 188) from (gV_putn eτ199 (Or.inr (Or.inr (by omega)))).trans (show gV τ180 23 0 188 = (gV τ 23 0 188) from (gV_putn eτ180 (Or.inr (Or.inr (by omega)))).trans (show gV τ171 23 0 188 = (gV τ 23 0 188) from (gV_putn eτ171 (Or.inr (Or.inr (by omega)))).trans (show gV τ70 23 0 188 = (gV τ 23 0 188) from (f72.1 23 0 (188) (by decide) (by decide)).trans (show gV τ51 23 0 188 = (gV τ 23 0 188) from (gV_putn eτ51 (Or.inr (Or.inr (by omega)))).trans (show gV τ30 23 0 188 = (gV τ 23 0 188) from (f32.1 23 0 (188) (by decide) (by decide)).trans rfl))))))))
                have q217 : (gV τ207 22 0 11).toInt = (gV τ70 22 0 11).toInt := congrArg Int32.toInt (show (gV τ207 22 0 11) = (gV τ70 22 0 11) from (show gV τ207 22 0 11 = (gV τ70 22 0 11) from gV_put eτ207 (show gV τ199 22 0 11 = (gV τ70 22 0 11) from gV_put eτ199 (show gV τ180 22 0 11 = (gV τ70 22 0 11) from gV_put eτ180 (show gV τ171 22 0 11 = (gV τ70 22 0 11) from gV_put eτ171 rfl)))))
                have q218 : (gV τ207 22 0 12).toInt = (gV τ70 22 0 12).toInt := congrArg Int32.toInt (show (gV τ207 22 0 12) = (gV τ70 22 0 12) from (show gV τ207 22 0 12 = (gV τ70 22 0 12) from gV_put eτ207 (show gV τ199 22 0 12 = (gV τ70 22 0 12) from gV_put eτ199 (show gV τ180 22 0 12 = (gV τ70 22 0 12) from gV_put eτ180 (show gV τ171 22 0 12 = (gV τ70 22 0 12) from gV_put eτ171 rfl)))))
                have q219 : (gV τ207 22 0 16).toInt = (gV τ70 22 0 16).toInt := congrArg Int32.toInt (show (gV τ207 22 0 16) = (gV τ70 22 0 16) from (show gV τ207 22 0 16 = (gV τ70 22 0 16) from gV_put eτ207 (show gV τ199 22 0 16 = (gV τ70 22 0 16) from gV_put eτ199 (show gV τ180 22 0 16 = (gV τ70 22 0 16) from gV_put eτ180 (show gV τ171 22 0 16 = (gV τ70 22 0 16) from gV_put eτ171 rfl)))))
                have b220 : IV (gV τ 23 0 152) 0 6 := ⟨by have q1 := u3; omega, by have q1 := u3; omega⟩
                refine m_iadd C dX12_takePerson_186 ?_
                refine m_topi (fun x221 ex221 => ?_)
                have tx221 : x221.toInt = (gV τ 23 0 152).toInt + 1 := by rw [ex221, ti_addv b220 kc_1 (by decide), kt_1]
                have b222 : IV x221 1 7 := by rw [ex221]; exact iv_add b220 kc_1 (by decide)
                refine as_23 C kc_152 (by decide) kn_152 dX12_takePerson_187 ?_
                refine m_tops (fun τ223 eτ223 => ?_)
                have i224 : Inv τ223 := eτ223 ▸ Inv.putR i208 (by decide) (iv_wk b222 (by decide))
                have f225 : Fr MS_X12_takePersonE AS_X12_takePersonE σ τ223 := eτ223 ▸ Fr.put (f209) (Or.inr (by decide))
                have v226 : CP (gV σ 23 0 152).toInt τ223 := v210.put eτ223 (Or.inr (fun q hq => by omega))
                have v227 : TpM τ223 T N := v211.put eτ223 (Or.inl (by decide)) (by decide)
                have v228 : CQ (gV σ 23 0 152).toInt.toNat τ223 := v212.put eτ223 (Or.inl (by decide)) (Or.inr (by omega))
                refine m_aload_n C dX12_takePerson_188 rfl rfl ?_
                have q229 : (gV τ223 22 0 6).toInt = (gV τ 22 0 6).toInt := congrArg Int32.toInt (show (gV τ223 22 0 6) = (gV τ 22 0 6) from (show gV τ223 22 0 6 = (gV τ 22 0 6) from gV_put eτ223 (show gV τ207 22 0 6 = (gV τ 22 0 6) from gV_put eτ207 (show gV τ199 22 0 6 = (gV τ 22 0 6) from gV_put eτ199 (show gV τ180 22 0 6 = (gV τ 22 0 6) from gV_put eτ180 (show gV τ171 22 0 6 = (gV τ 22 0 6) from gV_put eτ171 (show gV τ70 22 0 6 = (gV τ 22 0 6) from (f72.1 22 0 (6) (by decide) (by decide)).trans (show gV τ51 22 0 6 = (gV τ 22 0 6) from gV_put eτ51 (show gV τ30 22 0 6 = (gV τ 22 0 6) from (f32.1 22 0 (6) (by decide) (by decide)).trans rfl)))))))))
                have q230 : (gV τ223 23 0 150).toInt = (gV τ 23 0 150).toInt := congrArg Int32.toInt (show (gV τ223 23 0 150) = (gV τ 23 0 150) from (show gV τ223 23 0 150 = (gV τ 23 0 150) from gV_put eτ223 (show gV τ207 23 0 150 = (gV τ 23 0 150) from (gV_putn eτ207 (Or.inr (Or.inr (by omega)))).trans (show gV τ199 23 0 150 = (gV τ 23 0 150) from (gV_putn eτ199 (Or.inr (Or.inr (by omega)))).trans (show gV τ180 23 0 150 = (gV τ 23 0 150) from (gV_putn eτ180 (Or.inr (Or.inr (by omega)))).trans (show gV τ171 23 0 150 = (gV τ 23 0 150) from (gV_putn eτ171 (Or.inr (Or.inr (by omega)))).trans (show gV τ70 23 0 150 = (gV τ 23 0 150) from (f72.1 23 0 (150) (by decide) (by decide)).trans (show gV τ51 23 0 150 = (gV τ 23 0 150) from (gV_putn eτ51 (Or.inr (Or.inr (by omega)))).trans (show gV τ30 23 0 150 = (gV τ 23 0 150) from (f32.1 23 0 (150) (by decide) (by decide)).trans rfl)))))))))
                have q231 : (gV τ223 23 0 188).toInt = (gV τ 23 0 188).toInt := congrArg Int32.toInt (show (gV τ223 23 0 188) = (gV τ 23 0 188) from (show gV τ223 23 0 188 = (gV τ 23 0 188) from gV_put eτ223 (show gV τ207 23 0 188 = (gV τ 23 0 188) from (gV_putn eτ207 (Or.inr (Or.inr (by omega)))).trans (show gV τ199 23 0 188 = (gV τ 23 0 188) from (gV_putn eτ199 (Or.inr (Or.inr (by omega)))).trans (show gV τ180 23 0 188 = (gV τ 23 0 188) from (gV_putn eτ180 (Or.inr (Or.inr (by omega)))).trans (show gV τ171 23 0 188 = (gV τ 23 0 188) from (gV_putn eτ171 (Or.inr (Or.inr (by omega)))).trans (show gV τ70 23 0 188 = (gV τ 23 0 188) from (f72.1 23 0 (188) (by decide) (by decide)).trans (show gV τ51 23 0 188 = (gV τ 23 0 188) from (gV_putn eτ51 (Or.inr (Or.inr (by omega)))).trans (show gV τ30 23 0 188 = (gV τ 23 0 188) from (f32.1 23 0 (188) (by decide) (by decide)).trans rfl)))))))))
                have q232 : (gV τ223 22 0 11).toInt = (gV τ70 22 0 11).toInt := congrArg Int32.toInt (show (gV τ223 22 0 11) = (gV τ70 22 0 11) from (show gV τ223 22 0 11 = (gV τ70 22 0 11) from gV_put eτ223 (show gV τ207 22 0 11 = (gV τ70 22 0 11) from gV_put eτ207 (show gV τ199 22 0 11 = (gV τ70 22 0 11) from gV_put eτ199 (show gV τ180 22 0 11 = (gV τ70 22 0 11) from gV_put eτ180 (show gV τ171 22 0 11 = (gV τ70 22 0 11) from gV_put eτ171 rfl))))))
                have q233 : (gV τ223 22 0 12).toInt = (gV τ70 22 0 12).toInt := congrArg Int32.toInt (show (gV τ223 22 0 12) = (gV τ70 22 0 12) from (show gV τ223 22 0 12 = (gV τ70 22 0 12) from gV_put eτ223 (show gV τ207 22 0 12 = (gV τ70 22 0 12) from gV_put eτ207 (show gV τ199 22 0 12 = (gV τ70 22 0 12) from gV_put eτ199 (show gV τ180 22 0 12 = (gV τ70 22 0 12) from gV_put eτ180 (show gV τ171 22 0 12 = (gV τ70 22 0 12) from gV_put eτ171 rfl))))))
                have q234 : (gV τ223 22 0 16).toInt = (gV τ70 22 0 16).toInt := congrArg Int32.toInt (show (gV τ223 22 0 16) = (gV τ70 22 0 16) from (show gV τ223 22 0 16 = (gV τ70 22 0 16) from gV_put eτ223 (show gV τ207 22 0 16 = (gV τ70 22 0 16) from gV_put eτ207 (show gV τ199 22 0 16 = (gV τ70 22 0 16) from gV_put eτ199 (show gV τ180 22 0 16 = (gV τ70 22 0 16) from gV_put eτ180 (show gV τ171 22 0 16 = (gV τ70 22 0 16) from gV_put eτ171 rfl))))))
                have q235 : (gV τ223 23 0 152).toInt = x221.toInt := congrArg Int32.toInt (show (gV τ223 23 0 152) = x221 from (show gV τ223 23 0 152 = x221 from gV_put eτ223 (gV_self _ _ _ _ _)))
                refine m_callV (n := 0) (ci := 11) (st := []) C (c_X12_takeSignE l G τ223 T N (tE T N (tE T N (tE T N i)))  i224 v227 (fun h => absurd h (by omega)) (by omega)) (by decide) (by decide) rfl rfl rfl q5_15 q5_12 q5_14 q0_32 q1_7 (by decide +kernel) rfl (by decide) (by decide) rfl (Nat.le_of_ble_eq_true rfl) dX12_takePerson_189 ?_
                rintro _ τ236 ⟨rfl, i237, f238, h242⟩
                have g241 : Fr MS_X12_takePersonE AS_X12_takePersonE σ τ236 := Fr.call (f225) f238 (by decide)
                have v243 : CP (gV σ 23 0 152).toInt τ236 := v226.call (fun k => f238.1 23 0 k (by simp) (by decide))
                have v244 : TpM τ236 T N := v227.fr f238 (by decide) (by decide) (by simp) (by decide)
                have u245 : IV (gV τ236 22 0 11) 0 400 := i237.1 22 0 11
                have q246 : (gV τ236 22 0 6).toInt = (gV τ 22 0 6).toInt := congrArg Int32.toInt (show (gV τ236 22 0 6) = (gV τ 22 0 6) from (show gV τ236 22 0 6 = (gV τ 22 0 6) from (f238.1 22 0 (6) (by decide) (by decide)).trans (show gV τ223 22 0 6 = (gV τ 22 0 6) from gV_put eτ223 (show gV τ207 22 0 6 = (gV τ 22 0 6) from gV_put eτ207 (show gV τ199 22 0 6 = (gV τ 22 0 6) from gV_put eτ199 (show gV τ180 22 0 6 = (gV τ 22 0 6) from gV_put eτ180 (show gV τ171 22 0 6 = (gV τ 22 0 6) from gV_put eτ171 (show gV τ70 22 0 6 = (gV τ 22 0 6) from (f72.1 22 0 (6) (by decide) (by decide)).trans (show gV τ51 22 0 6 = (gV τ 22 0 6) from gV_put eτ51 (show gV τ30 22 0 6 = (gV τ 22 0 6) from (f32.1 22 0 (6) (by decide) (by decide)).trans rfl))))))))))
                have q247 : (gV τ236 23 0 150).toInt = (gV τ 23 0 150).toInt := congrArg Int32.toInt (show (gV τ236 23 0 150) = (gV τ 23 0 150) from (show gV τ236 23 0 150 = (gV τ 23 0 150) from (f238.1 23 0 (150) (by decide) (by decide)).trans (show gV τ223 23 0 150 = (gV τ 23 0 150) from gV_put eτ223 (show gV τ207 23 0 150 = (gV τ 23 0 150) from (gV_putn eτ207 (Or.inr (Or.inr (by omega)))).trans (show gV τ199 23 0 150 = (gV τ 23 0 150) from (gV_putn eτ199 (Or.inr (Or.inr (by omega)))).trans (show gV τ180 23 0 150 = (gV τ 23 0 150) from (gV_putn eτ180 (Or.inr (Or.inr (by omega)))).trans (show gV τ171 23 0 150 = (gV τ 23 0 150) from (gV_putn eτ171 (Or.inr (Or.inr (by omega)))).trans (show gV τ70 23 0 150 = (gV τ 23 0 150) from (f72.1 23 0 (150) (by decide) (by decide)).trans (show gV τ51 23 0 150 = (gV τ 23 0 150) from (gV_putn eτ51 (Or.inr (Or.inr (by omega)))).trans (show gV τ30 23 0 150 = (gV τ 23 0 150) from (f32.1 23 0 (150) (by decide) (by decide)).trans rfl))))))))))
                have q248 : (gV τ236 23 0 188).toInt = (gV τ 23 0 188).toInt := congrArg Int32.toInt (show (gV τ236 23 0 188) = (gV τ 23 0 188) from (show gV τ236 23 0 188 = (gV τ 23 0 188) from (f238.1 23 0 (188) (by decide) (by decide)).trans (show gV τ223 23 0 188 = (gV τ 23 0 188) from gV_put eτ223 (show gV τ207 23 0 188 = (gV τ 23 0 188) from (gV_putn eτ207 (Or.inr (Or.inr (by omega)))).trans (show gV τ199 23 0 188 = (gV τ 23 0 188) from (gV_putn eτ199 (Or.inr (Or.inr (by omega)))).trans (show gV τ180 23 0 188 = (gV τ 23 0 188) from (gV_putn eτ180 (Or.inr (Or.inr (by omega)))).trans (show gV τ171 23 0 188 = (gV τ 23 0 188) from (gV_putn eτ171 (Or.inr (Or.inr (by omega)))).trans (show gV τ70 23 0 188 = (gV τ 23 0 188) from (f72.1 23 0 (188) (by decide) (by decide)).trans (show gV τ51 23 0 188 = (gV τ 23 0 188) from (gV_putn eτ51 (Or.inr (Or.inr (by omega)))).trans (show gV τ30 23 0 188 = (gV τ 23 0 188) from (f32.1 23 0 (188) (by decide) (by decide)).trans rfl))))))))))
                have q249 : (gV τ236 23 0 152).toInt = x221.toInt := congrArg Int32.toInt (show (gV τ236 23 0 152) = x221 from (show gV τ236 23 0 152 = x221 from (f238.1 23 0 (152) (by decide) (by decide)).trans (show gV τ223 23 0 152 = x221 from gV_put eτ223 (gV_self _ _ _ _ _))))
                rcases h242 with ⟨h242_0, h242_1, h242_2, h242_3⟩ | ⟨h242_0, h242_1, h242_2, h242_3, h242_4⟩ | ⟨h242_0, h242_1, h242_2, h242_3, h242_4, h242_5⟩
                · skip
                  have v250 : CQ (gV σ 23 0 152).toInt.toNat τ236 := v228.call (fun q => by omega) (fun k => f238.1 23 0 k (by simp) (by decide))
                  show MW p l e _ s m args below meth c _ 4 G 0 0 192 [some (.ref (G.1 22 0)), some (.int y1), some (.int z0), some (.int 0)] [] τ236
                  exact m_vret C hr hlk (by decide) (by decide) dX12_takePerson_192 ⟨rfl, i237, g241, (by have qd := per_3 T N st cc i (by omega) (by omega) (by omega) (by omega); exact Or.inl ⟨by omega, by omega, by omega, by omega, by omega, by omega⟩)⟩
                · skip
                  exfalso; omega
                · skip
                  exfalso; omega
              · first | exact absurd c197 (by decide) | exact absurd (by decide) c197
            · exfalso
              have q : _ := c193
              simp only [ti_nle, ti_nlt, ti_le, ti_lt, ti_eq, ti_ne, Classical.not_not, kt_0] at q
              have q1 := b170; have q2 := kc_0; omega
          · exfalso
            have q : _ := c178
            simp only [ti_nle, ti_nlt, ti_le, ti_lt, ti_eq, ti_ne, Classical.not_not, kt_0] at q
            have q1 := b170; have q2 := kc_0; omega
        · skip
          have q254 : 1 ≤ tV T (tE T N (tE T N i)) ∧ tV T (tE T N (tE T N i)) ≤ 20 := by omega
          clear h76_1
          have v255 : CuM T N (tE T N (tE T N (tE T N i))) τ70 := ⟨h76_4, h76_5⟩
          clear h76_4
          have b256 : IV (gV τ70 22 0 16) 0 0 := ⟨by omega, by omega⟩
          show MW p l e _ s m args below meth c _ 4 G 0 0 86 [some (.ref (G.1 22 0)), some (.int y1), some (.int z0), none] [.int x73, .int x58, .ref (G.1 23 0)] τ70
          refine as_23 C b59 (by decide) rfl dX12_takePerson_86 ?_
          refine m_tops (fun τ257 eτ257 => ?_)
          have i258 : Inv τ257 := eτ257 ▸ Inv.putRo i71 (by omega)
          have f259 : Fr MS_X12_takePersonE AS_X12_takePersonE σ τ257 := eτ257 ▸ Fr.put (g75) (Or.inr (by decide))
          have v260 : CP (gV σ 23 0 152).toInt τ257 := v77.put eτ257 (Or.inr (fun q hq => by omega))
          have v261 : TpM τ257 T N := v78.put eτ257 (Or.inl (by decide)) (by decide)
          have v262 : LW T N (tE T N (tE T N (tE T N i))) τ257.2.2.1 := by rw [eτ257]; exact h76_6
          have v263 : CuM T N (tE T N (tE T N (tE T N i))) τ257 := CuM.put v255 eτ257 (Or.inl (by decide))
          refine m_aload_n C dX12_takePerson_87 rfl rfl ?_
          refine g_22_0 C q4_116 dX12_takePerson_88 ?_
          refine m_sipush (v := 167) C dX12_takePerson_91 (by decide) ?_
          refine m_iload_n C dX12_takePerson_94 rfl rfl ?_
          refine m_iadd C dX12_takePerson_95 ?_
          refine m_topi (fun x264 ex264 => ?_)
          have tx264 : x264.toInt = 167 + y1.toInt := by rw [ex264, ti_addv kc_167 b_y1 (by decide), kt_167]
          have b265 : IV x264 167 173 := by rw [ex264]; exact iv_add kc_167 b_y1 (by decide)
          refine m_aload_n C dX12_takePerson_96 rfl rfl ?_
          refine g_22_16 C q4_132 dX12_takePerson_97 ?_
          refine m_eqs (w := (gV τ70 22 0 16)) (show gV τ257 22 0 16 = (gV τ70 22 0 16) from gV_put eτ257 rfl) ?_
          refine m_if_ne (tgt := 113) C dX12_takePerson_100 (by decide) (fun c266 => ?_) (fun c266 => ?_)
          · exfalso
            have q : _ := c266
            simp only [ti_nle, ti_nlt, ti_le, ti_lt, ti_eq, ti_ne, Classical.not_not, kt_0] at q
            have q1 := b256; have q2 := kc_0; omega
          · have f268 : (gV τ70 22 0 16).toInt = 0 := by
              have q : _ := c266
              simp only [ti_nle, ti_nlt, ti_le, ti_lt, ti_eq, ti_ne, Classical.not_not, kt_0] at q
              omega
            refine m_aload_n C dX12_takePerson_103 rfl rfl ?_
            refine m_iconst (v := 1) C dX12_takePerson_104 (by decide) ?_
            refine m_iconst (v := 4) C dX12_takePerson_105 (by decide) ?_
            refine m_iconst (v := 1) C dX12_takePerson_106 (by decide) ?_
            have q269 : (gV τ257 22 0 6).toInt = (gV τ 22 0 6).toInt := congrArg Int32.toInt (show (gV τ257 22 0 6) = (gV τ 22 0 6) from (show gV τ257 22 0 6 = (gV τ 22 0 6) from gV_put eτ257 (show gV τ70 22 0 6 = (gV τ 22 0 6) from (f72.1 22 0 (6) (by decide) (by decide)).trans (show gV τ51 22 0 6 = (gV τ 22 0 6) from gV_put eτ51 (show gV τ30 22 0 6 = (gV τ 22 0 6) from (f32.1 22 0 (6) (by decide) (by decide)).trans rfl)))))
            have q270 : (gV τ257 23 0 150).toInt = (gV τ 23 0 150).toInt := congrArg Int32.toInt (show (gV τ257 23 0 150) = (gV τ 23 0 150) from (show gV τ257 23 0 150 = (gV τ 23 0 150) from (gV_putn eτ257 (Or.inr (Or.inr (by omega)))).trans (show gV τ70 23 0 150 = (gV τ 23 0 150) from (f72.1 23 0 (150) (by decide) (by decide)).trans (show gV τ51 23 0 150 = (gV τ 23 0 150) from (gV_putn eτ51 (Or.inr (Or.inr (by omega)))).trans (show gV τ30 23 0 150 = (gV τ 23 0 150) from (f32.1 23 0 (150) (by decide) (by decide)).trans rfl)))))
            have q271 : (gV τ257 23 0 152).toInt = (gV τ 23 0 152).toInt := congrArg Int32.toInt (show (gV τ257 23 0 152) = (gV τ 23 0 152) from (show gV τ257 23 0 152 = (gV τ 23 0 152) from (gV_putn eτ257 (Or.inr (Or.inr (by omega)))).trans (show gV τ70 23 0 152 = (gV τ 23 0 152) from (f72.1 23 0 (152) (by decide) (by decide)).trans (show gV τ51 23 0 152 = (gV τ 23 0 152) from (gV_putn eτ51 (Or.inr (Or.inr (by omega)))).trans (show gV τ30 23 0 152 = (gV τ 23 0 152) from (f32.1 23 0 (152) (by decide) (by decide)).trans rfl)))))
            have q272 : (gV τ257 23 0 188).toInt = (gV τ 23 0 188).toInt := congrArg Int32.toInt (show (gV τ257 23 0 188) = (gV τ 23 0 188) from (show gV τ257 23 0 188 = (gV τ 23 0 188) from (gV_putn eτ257 (Or.inr (Or.inr (by omega)))).trans (show gV τ70 23 0 188 = (gV τ 23 0 188) from (f72.1 23 0 (188) (by decide) (by decide)).trans (show gV τ51 23 0 188 = (gV τ 23 0 188) from (gV_putn eτ51 (Or.inr (Or.inr (by omega)))).trans (show gV τ30 23 0 188 = (gV τ 23 0 188) from (f32.1 23 0 (188) (by decide) (by decide)).trans rfl)))))
            have q273 : (gV τ257 22 0 11).toInt = (gV τ70 22 0 11).toInt := congrArg Int32.toInt (show (gV τ257 22 0 11) = (gV τ70 22 0 11) from (show gV τ257 22 0 11 = (gV τ70 22 0 11) from gV_put eτ257 rfl))
            have q274 : (gV τ257 22 0 12).toInt = (gV τ70 22 0 12).toInt := congrArg Int32.toInt (show (gV τ257 22 0 12) = (gV τ70 22 0 12) from (show gV τ257 22 0 12 = (gV τ70 22 0 12) from gV_put eτ257 rfl))
            have q275 : (gV τ257 22 0 16).toInt = (gV τ70 22 0 16).toInt := congrArg Int32.toInt (show (gV τ257 22 0 16) = (gV τ70 22 0 16) from (show gV τ257 22 0 16 = (gV τ70 22 0 16) from gV_put eτ257 rfl))
            have q276 := kt_1
            have q277 := kt_4
            have q278 := kt_1
            refine m_callV (n := 3) (ci := 11) (st := [.int x264, .ref (G.1 23 0)]) C (c_X12_takeNumberE l G τ257 T N (tE T N (tE T N (tE T N i))) (1) (4) (1) i258 v261 v263.1 (by omega)) (by decide) (by decide) rfl rfl rfl q5_7 q5_4 q5_6 q0_30 q1_7 (by decide +kernel) rfl (by decide) (by decide) rfl (Nat.le_of_ble_eq_true rfl) dX12_takePerson_107 ?_
            rintro _ τ279 ⟨x282, rfl, i280, f281, b283, h285⟩
            have g284 : Fr MS_X12_takePersonE AS_X12_takePersonE σ τ279 := Fr.call (f259) f281 (by decide)
            have v286 : CP (gV σ 23 0 152).toInt τ279 := v260.call (fun k => f281.1 23 0 k (by simp) (by decide))
            have v287 : TpM τ279 T N := v261.fr f281 (by decide) (by decide) (by simp) (by decide)
            have u288 : IV (gV τ279 22 0 11) 0 400 := i280.1 22 0 11
            have q289 : (gV τ279 22 0 6).toInt = (gV τ 22 0 6).toInt := congrArg Int32.toInt (show (gV τ279 22 0 6) = (gV τ 22 0 6) from (show gV τ279 22 0 6 = (gV τ 22 0 6) from (f281.1 22 0 (6) (by decide) (by decide)).trans (show gV τ257 22 0 6 = (gV τ 22 0 6) from gV_put eτ257 (show gV τ70 22 0 6 = (gV τ 22 0 6) from (f72.1 22 0 (6) (by decide) (by decide)).trans (show gV τ51 22 0 6 = (gV τ 22 0 6) from gV_put eτ51 (show gV τ30 22 0 6 = (gV τ 22 0 6) from (f32.1 22 0 (6) (by decide) (by decide)).trans rfl))))))
            have q290 : (gV τ279 23 0 150).toInt = (gV τ 23 0 150).toInt := congrArg Int32.toInt (show (gV τ279 23 0 150) = (gV τ 23 0 150) from (show gV τ279 23 0 150 = (gV τ 23 0 150) from (f281.1 23 0 (150) (by decide) (by decide)).trans (show gV τ257 23 0 150 = (gV τ 23 0 150) from (gV_putn eτ257 (Or.inr (Or.inr (by omega)))).trans (show gV τ70 23 0 150 = (gV τ 23 0 150) from (f72.1 23 0 (150) (by decide) (by decide)).trans (show gV τ51 23 0 150 = (gV τ 23 0 150) from (gV_putn eτ51 (Or.inr (Or.inr (by omega)))).trans (show gV τ30 23 0 150 = (gV τ 23 0 150) from (f32.1 23 0 (150) (by decide) (by decide)).trans rfl))))))
            have q291 : (gV τ279 23 0 152).toInt = (gV τ 23 0 152).toInt := congrArg Int32.toInt (show (gV τ279 23 0 152) = (gV τ 23 0 152) from (show gV τ279 23 0 152 = (gV τ 23 0 152) from (f281.1 23 0 (152) (by decide) (by decide)).trans (show gV τ257 23 0 152 = (gV τ 23 0 152) from (gV_putn eτ257 (Or.inr (Or.inr (by omega)))).trans (show gV τ70 23 0 152 = (gV τ 23 0 152) from (f72.1 23 0 (152) (by decide) (by decide)).trans (show gV τ51 23 0 152 = (gV τ 23 0 152) from (gV_putn eτ51 (Or.inr (Or.inr (by omega)))).trans (show gV τ30 23 0 152 = (gV τ 23 0 152) from (f32.1 23 0 (152) (by decide) (by decide)).trans rfl))))))
            have q292 : (gV τ279 23 0 188).toInt = (gV τ 23 0 188).toInt := congrArg Int32.toInt (show (gV τ279 23 0 188) = (gV τ 23 0 188) from (show gV τ279 23 0 188 = (gV τ 23 0 188) from (f281.1 23 0 (188) (by decide) (by decide)).trans (show gV τ257 23 0 188 = (gV τ 23 0 188) from (gV_putn eτ257 (Or.inr (Or.inr (by omega)))).trans (show gV τ70 23 0 188 = (gV τ 23 0 188) from (f72.1 23 0 (188) (by decide) (by decide)).trans (show gV τ51 23 0 188 = (gV τ 23 0 188) from (gV_putn eτ51 (Or.inr (Or.inr (by omega)))).trans (show gV τ30 23 0 188 = (gV τ 23 0 188) from (f32.1 23 0 (188) (by decide) (by decide)).trans rfl))))))
            rcases h285 with ⟨h285_0, h285_1, h285_2, h285_3, h285_4⟩ | ⟨h285_0, h285_1, h285_2, h285_3, h285_4, h285_5, h285_6⟩ | ⟨h285_0, h285_1, h285_2, h285_3, h285_4, h285_5, h285_6⟩
            · skip
              have b293 : IV x282 (-1) (-1) := ⟨by omega, by omega⟩
              have b294 : IV (gV τ279 22 0 16) 1 1 := ⟨by omega, by omega⟩
              show MW p l e _ s m args below meth c _ 4 G 0 0 110 [some (.ref (G.1 22 0)), some (.int y1), some (.int z0), none] [.int x282, .int x264, .ref (G.1 23 0)] τ279
              refine m_goto (tgt := 114) C dX12_takePerson_110 (by decide) ?_
              refine as_23 C b265 (by decide) rfl dX12_takePerson_114 ?_
              refine m_tops (fun τ295 eτ295 => ?_)
              have i296 : Inv τ295 := eτ295 ▸ Inv.putRo i280 (by omega)
              have f297 : Fr MS_X12_takePersonE AS_X12_takePersonE σ τ295 := eτ295 ▸ Fr.put (g284) (Or.inr (by decide))
              have v298 : CP (gV σ 23 0 152).toInt τ295 := v286.put eτ295 (Or.inr (fun q hq => by omega))
              have v299 : TpM τ295 T N := v287.put eτ295 (Or.inl (by decide)) (by decide)
              have q300 : (gV τ295 22 0 6).toInt = (gV τ 22 0 6).toInt := congrArg Int32.toInt (show (gV τ295 22 0 6) = (gV τ 22 0 6) from (show gV τ295 22 0 6 = (gV τ 22 0 6) from gV_put eτ295 (show gV τ279 22 0 6 = (gV τ 22 0 6) from (f281.1 22 0 (6) (by decide) (by decide)).trans (show gV τ257 22 0 6 = (gV τ 22 0 6) from gV_put eτ257 (show gV τ70 22 0 6 = (gV τ 22 0 6) from (f72.1 22 0 (6) (by decide) (by decide)).trans (show gV τ51 22 0 6 = (gV τ 22 0 6) from gV_put eτ51 (show gV τ30 22 0 6 = (gV τ 22 0 6) from (f32.1 22 0 (6) (by decide) (by decide)).trans rfl)))))))
              have q301 : (gV τ295 23 0 150).toInt = (gV τ 23 0 150).toInt := congrArg Int32.toInt (show (gV τ295 23 0 150) = (gV τ 23 0 150) from (show gV τ295 23 0 150 = (gV τ 23 0 150) from (gV_putn eτ295 (Or.inr (Or.inr (by omega)))).trans (show gV τ279 23 0 150 = (gV τ 23 0 150) from (f281.1 23 0 (150) (by decide) (by decide)).trans (show gV τ257 23 0 150 = (gV τ 23 0 150) from (gV_putn eτ257 (Or.inr (Or.inr (by omega)))).trans (show gV τ70 23 0 150 = (gV τ 23 0 150) from (f72.1 23 0 (150) (by decide) (by decide)).trans (show gV τ51 23 0 150 = (gV τ 23 0 150) from (gV_putn eτ51 (Or.inr (Or.inr (by omega)))).trans (show gV τ30 23 0 150 = (gV τ 23 0 150) from (f32.1 23 0 (150) (by decide) (by decide)).trans rfl)))))))
              have q302 : (gV τ295 23 0 152).toInt = (gV τ 23 0 152).toInt := congrArg Int32.toInt (show (gV τ295 23 0 152) = (gV τ 23 0 152) from (show gV τ295 23 0 152 = (gV τ 23 0 152) from (gV_putn eτ295 (Or.inr (Or.inr (by omega)))).trans (show gV τ279 23 0 152 = (gV τ 23 0 152) from (f281.1 23 0 (152) (by decide) (by decide)).trans (show gV τ257 23 0 152 = (gV τ 23 0 152) from (gV_putn eτ257 (Or.inr (Or.inr (by omega)))).trans (show gV τ70 23 0 152 = (gV τ 23 0 152) from (f72.1 23 0 (152) (by decide) (by decide)).trans (show gV τ51 23 0 152 = (gV τ 23 0 152) from (gV_putn eτ51 (Or.inr (Or.inr (by omega)))).trans (show gV τ30 23 0 152 = (gV τ 23 0 152) from (f32.1 23 0 (152) (by decide) (by decide)).trans rfl)))))))
              have q303 : (gV τ295 23 0 188).toInt = (gV τ 23 0 188).toInt := congrArg Int32.toInt (show (gV τ295 23 0 188) = (gV τ 23 0 188) from (show gV τ295 23 0 188 = (gV τ 23 0 188) from (gV_putn eτ295 (Or.inr (Or.inr (by omega)))).trans (show gV τ279 23 0 188 = (gV τ 23 0 188) from (f281.1 23 0 (188) (by decide) (by decide)).trans (show gV τ257 23 0 188 = (gV τ 23 0 188) from (gV_putn eτ257 (Or.inr (Or.inr (by omega)))).trans (show gV τ70 23 0 188 = (gV τ 23 0 188) from (f72.1 23 0 (188) (by decide) (by decide)).trans (show gV τ51 23 0 188 = (gV τ 23 0 188) from (gV_putn eτ51 (Or.inr (Or.inr (by omega)))).trans (show gV τ30 23 0 188 = (gV τ 23 0 188) from (f32.1 23 0 (188) (by decide) (by decide)).trans rfl)))))))
              have q304 : (gV τ295 22 0 11).toInt = (gV τ279 22 0 11).toInt := congrArg Int32.toInt (show (gV τ295 22 0 11) = (gV τ279 22 0 11) from (show gV τ295 22 0 11 = (gV τ279 22 0 11) from gV_put eτ295 rfl))
              have q305 : (gV τ295 22 0 12).toInt = (gV τ279 22 0 12).toInt := congrArg Int32.toInt (show (gV τ295 22 0 12) = (gV τ279 22 0 12) from (show gV τ295 22 0 12 = (gV τ279 22 0 12) from gV_put eτ295 rfl))
              have q306 : (gV τ295 22 0 16).toInt = (gV τ279 22 0 16).toInt := congrArg Int32.toInt (show (gV τ295 22 0 16) = (gV τ279 22 0 16) from (show gV τ295 22 0 16 = (gV τ279 22 0 16) from gV_put eτ295 rfl))
              have v307 : CQ (gV σ 23 0 152).toInt.toNat τ295 := by
                intro q
                have q1 : gV τ295 23 0 (x264.toInt.toNat) = x282 := (show gV τ295 23 0 (x264.toInt.toNat) = x282 from gV_put eτ295 (gV_self _ _ _ _ _))
                rw [show 167 + (gV σ 23 0 152).toInt.toNat = (x264.toInt.toNat) by omega, q1]
                omega
              refine m_aload_n C dX12_takePerson_115 rfl rfl ?_
              refine g_22_16 C q4_132 dX12_takePerson_116 ?_
              refine m_eqs (w := (gV τ279 22 0 16)) (show gV τ295 22 0 16 = (gV τ279 22 0 16) from gV_put eτ295 rfl) ?_
              refine m_if_ne (tgt := 142) C dX12_takePerson_119 (by decide) (fun c308 => ?_) (fun c308 => ?_)
              · have f309 : (gV τ279 22 0 16).toInt ≠ 0 := by
                  have q : _ := c308
                  simp only [ti_nle, ti_nlt, ti_le, ti_lt, ti_eq, ti_ne, Classical.not_not, kt_0] at q
                  omega
                refine m_iconst (v := 0) C dX12_takePerson_142 (by decide) ?_
                refine m_istore_n (L1 := [some (.ref (G.1 22 0)), some (.int y1), some (.int z0), some (.int 0)]) C dX12_takePerson_143 rfl (by decide) rfl rfl ?_
                refine m_aload_n C dX12_takePerson_144 rfl rfl ?_
                refine g_22_0 C q4_116 dX12_takePerson_145 ?_
                refine m_sipush (v := 174) C dX12_takePerson_148 (by decide) ?_
                refine m_iload_n C dX12_takePerson_151 rfl rfl ?_
                refine m_iadd C dX12_takePerson_152 ?_
                refine m_topi (fun x310 ex310 => ?_)
                have tx310 : x310.toInt = 174 + y1.toInt := by rw [ex310, ti_addv kc_174 b_y1 (by decide), kt_174]
                have b311 : IV x310 174 180 := by rw [ex310]; exact iv_add kc_174 b_y1 (by decide)
                refine m_iload_n C dX12_takePerson_153 rfl rfl ?_
                refine m_bipush (v := 99) C dX12_takePerson_154 (by decide) ?_
                refine m_icmp_ne (tgt := 163) C dX12_takePerson_156 (by decide) (fun c312 => ?_) (fun c312 => ?_)
                · have f313 : 0 ≠ 99 := by
                    have q : _ := c312
                    simp only [ti_nle, ti_nlt, ti_le, ti_lt, ti_eq, ti_ne, Classical.not_not, kt_0, kt_99] at q
                    omega
                  refine m_iload_n C dX12_takePerson_163 rfl rfl ?_
                  refine as_23 C b311 (by decide) rfl dX12_takePerson_164 ?_
                  refine m_tops (fun τ314 eτ314 => ?_)
                  have i315 : Inv τ314 := eτ314 ▸ Inv.putR0 i296 (by omega) kt_0
                  have f316 : Fr MS_X12_takePersonE AS_X12_takePersonE σ τ314 := eτ314 ▸ Fr.put (f297) (Or.inr (by decide))
                  have v317 : CP (gV σ 23 0 152).toInt τ314 := v298.put eτ314 (Or.inr (fun q hq => by omega))
                  have v318 : TpM τ314 T N := v299.put eτ314 (Or.inl (by decide)) (by decide)
                  have v319 : CQ (gV σ 23 0 152).toInt.toNat τ314 := v307.put eτ314 (Or.inl (by decide)) (Or.inr (by omega))
                  refine m_aload_n C dX12_takePerson_165 rfl rfl ?_
                  refine g_22_0 C q4_116 dX12_takePerson_166 ?_
                  refine m_sipush (v := 181) C dX12_takePerson_169 (by decide) ?_
                  refine m_iload_n C dX12_takePerson_172 rfl rfl ?_
                  refine m_iadd C dX12_takePerson_173 ?_
                  refine m_topi (fun x320 ex320 => ?_)
                  have tx320 : x320.toInt = 181 + y1.toInt := by rw [ex320, ti_addv kc_181 b_y1 (by decide), kt_181]
                  have b321 : IV x320 181 187 := by rw [ex320]; exact iv_add kc_181 b_y1 (by decide)
                  refine m_iconst (v := 0) C dX12_takePerson_174 (by decide) ?_
                  refine as_23 C b321 (by decide) rfl dX12_takePerson_175 ?_
                  refine m_tops (fun τ322 eτ322 => ?_)
                  have i323 : Inv τ322 := eτ322 ▸ Inv.putR0 i315 (by omega) kt_0
                  have f324 : Fr MS_X12_takePersonE AS_X12_takePersonE σ τ322 := eτ322 ▸ Fr.put (f316) (Or.inr (by decide))
                  have v325 : CP (gV σ 23 0 152).toInt τ322 := v317.put eτ322 (Or.inr (fun q hq => by omega))
                  have v326 : TpM τ322 T N := v318.put eτ322 (Or.inl (by decide)) (by decide)
                  have v327 : CQ (gV σ 23 0 152).toInt.toNat τ322 := v319.put eτ322 (Or.inl (by decide)) (Or.inr (by omega))
                  refine m_aload_n C dX12_takePerson_176 rfl rfl ?_
                  refine g_22_0 C q4_116 dX12_takePerson_177 ?_
                  refine m_sipush (v := 152) C dX12_takePerson_180 (by decide) ?_
                  refine m_dup2 C dX12_takePerson_183 rfl rfl ?_
                  refine al_23 C kc_152 (by decide) kn_152 dX12_takePerson_184 ?_
                  refine m_eqs (w := (gV τ 23 0 152)) (show gV τ322 23 0 152 = (gV τ 23 0 152) from (gV_putn eτ322 (Or.inr (Or.inr (by omega)))).trans (show gV τ314 23 0 152 = (gV τ 23 0 152) from (gV_putn eτ314 (Or.inr (Or.inr (by omega)))).trans (show gV τ295 23 0 152 = (gV τ 23 0 152) from (gV_putn eτ295 (Or.inr (Or.inr (by omega)))).trans (show gV τ279 23 0 152 = (gV τ 23 0 152) from (f281.1 23 0 (152) (by decide) (by decide)).trans (show gV τ257 23 0 152 = (gV τ 23 0 152) from (gV_putn eτ257 (Or.inr (Or.inr (by omega)))).trans (show gV τ70 23 0 152 = (gV τ 23 0 152) from (f72.1 23 0 (152) (by decide) (by decide)).trans (show gV τ51 23 0 152 = (gV τ 23 0 152) from (gV_putn eτ51 (Or.inr (Or.inr (by omega)))).trans (show gV τ30 23 0 152 = (gV τ 23 0 152) from (f32.1 23 0 (152) (by decide) (by decide)).trans rfl)))))))) ?_
                  refine m_iconst (v := 1) C dX12_takePerson_185 (by decide) ?_
                  have q328 : (gV τ322 22 0 6).toInt = (gV τ 22 0 6).toInt := congrArg Int32.toInt (show (gV τ322 22 0 6) = (gV τ 22 0 6) from (show gV τ322 22 0 6 = (gV τ 22 0 6) from gV_put eτ322 (show gV τ314 22 0 6 = (gV τ 22 0 6) from gV_put eτ314 (show gV τ295 22 0 6 = (gV τ 22 0 6) from gV_put eτ295 (show gV τ279 22 0 6 = (gV τ 22 0 6) from (f281.1 22 0 (6) (by decide) (by decide)).trans (show gV τ257 22 0 6 = (gV τ 22 0 6) from gV_put eτ257 (show gV τ70 22 0 6 = (gV τ 22 0 6) from (f72.1 22 0 (6) (by decide) (by decide)).trans (show gV τ51 22 0 6 = (gV τ 22 0 6) from gV_put eτ51 (show gV τ30 22 0 6 = (gV τ 22 0 6) from (f32.1 22 0 (6) (by decide) (by decide)).trans rfl)))))))))
                  have q329 : (gV τ322 23 0 150).toInt = (gV τ 23 0 150).toInt := congrArg Int32.toInt (show (gV τ322 23 0 150) = (gV τ 23 0 150) from (show gV τ322 23 0 150 = (gV τ 23 0 150) from (gV_putn eτ322 (Or.inr (Or.inr (by omega)))).trans (show gV τ314 23 0 150 = (gV τ 23 0 150) from (gV_putn eτ314 (Or.inr (Or.inr (by omega)))).trans (show gV τ295 23 0 150 = (gV τ 23 0 150) from (gV_putn eτ295 (Or.inr (Or.inr (by omega)))).trans (show gV τ279 23 0 150 = (gV τ 23 0 150) from (f281.1 23 0 (150) (by decide) (by decide)).trans (show gV τ257 23 0 150 = (gV τ 23 0 150) from (gV_putn eτ257 (Or.inr (Or.inr (by omega)))).trans (show gV τ70 23 0 150 = (gV τ 23 0 150) from (f72.1 23 0 (150) (by decide) (by decide)).trans (show gV τ51 23 0 150 = (gV τ 23 0 150) from (gV_putn eτ51 (Or.inr (Or.inr (by omega)))).trans (show gV τ30 23 0 150 = (gV τ 23 0 150) from (f32.1 23 0 (150) (by decide) (by decide)).trans rfl)))))))))
                  have q330 : (gV τ322 23 0 152).toInt = (gV τ 23 0 152).toInt := congrArg Int32.toInt (show (gV τ322 23 0 152) = (gV τ 23 0 152) from (show gV τ322 23 0 152 = (gV τ 23 0 152) from (gV_putn eτ322 (Or.inr (Or.inr (by omega)))).trans (show gV τ314 23 0 152 = (gV τ 23 0 152) from (gV_putn eτ314 (Or.inr (Or.inr (by omega)))).trans (show gV τ295 23 0 152 = (gV τ 23 0 152) from (gV_putn eτ295 (Or.inr (Or.inr (by omega)))).trans (show gV τ279 23 0 152 = (gV τ 23 0 152) from (f281.1 23 0 (152) (by decide) (by decide)).trans (show gV τ257 23 0 152 = (gV τ 23 0 152) from (gV_putn eτ257 (Or.inr (Or.inr (by omega)))).trans (show gV τ70 23 0 152 = (gV τ 23 0 152) from (f72.1 23 0 (152) (by decide) (by decide)).trans (show gV τ51 23 0 152 = (gV τ 23 0 152) from (gV_putn eτ51 (Or.inr (Or.inr (by omega)))).trans (show gV τ30 23 0 152 = (gV τ 23 0 152) from (f32.1 23 0 (152) (by decide) (by decide)).trans rfl)))))))))
                  have q331 : (gV τ322 23 0 188).toInt = (gV τ 23 0 188).toInt := congrArg Int32.toInt (show (gV τ322 23 0 188) = (gV τ 23 0 188) from (show gV τ322 23 0 188 = (gV τ 23 0 188) from (gV_putn eτ322 (Or.inr (Or.inr (by omega)))).trans (show gV τ314 23 0 188 = (gV τ 23 0 188) from (gV_putn eτ314 (Or.inr (Or.inr (by omega)))).trans (show gV τ295 23 0 188 = (gV τ 23 0 188) from (gV_putn eτ295 (Or.inr (Or.inr (by omega)))).trans (show gV τ279 23 0 188 = (gV τ 23 0 188) from (f281.1 23 0 (188) (by decide) (by decide)).trans (show gV τ257 23 0 188 = (gV τ 23 0 188) from (gV_putn eτ257 (Or.inr (Or.inr (by omega)))).trans (show gV τ70 23 0 188 = (gV τ 23 0 188) from (f72.1 23 0 (188) (by decide) (by decide)).trans (show gV τ51 23 0 188 = (gV τ 23 0 188) from (gV_putn eτ51 (Or.inr (Or.inr (by omega)))).trans (show gV τ30 23 0 188 = (gV τ 23 0 188) from (f32.1 23 0 (188) (by decide) (by decide)).trans rfl)))))))))
                  have q332 : (gV τ322 22 0 11).toInt = (gV τ279 22 0 11).toInt := congrArg Int32.toInt (show (gV τ322 22 0 11) = (gV τ279 22 0 11) from (show gV τ322 22 0 11 = (gV τ279 22 0 11) from gV_put eτ322 (show gV τ314 22 0 11 = (gV τ279 22 0 11) from gV_put eτ314 (show gV τ295 22 0 11 = (gV τ279 22 0 11) from gV_put eτ295 rfl))))
                  have q333 : (gV τ322 22 0 12).toInt = (gV τ279 22 0 12).toInt := congrArg Int32.toInt (show (gV τ322 22 0 12) = (gV τ279 22 0 12) from (show gV τ322 22 0 12 = (gV τ279 22 0 12) from gV_put eτ322 (show gV τ314 22 0 12 = (gV τ279 22 0 12) from gV_put eτ314 (show gV τ295 22 0 12 = (gV τ279 22 0 12) from gV_put eτ295 rfl))))
                  have q334 : (gV τ322 22 0 16).toInt = (gV τ279 22 0 16).toInt := congrArg Int32.toInt (show (gV τ322 22 0 16) = (gV τ279 22 0 16) from (show gV τ322 22 0 16 = (gV τ279 22 0 16) from gV_put eτ322 (show gV τ314 22 0 16 = (gV τ279 22 0 16) from gV_put eτ314 (show gV τ295 22 0 16 = (gV τ279 22 0 16) from gV_put eτ295 rfl))))
                  have b335 : IV (gV τ 23 0 152) 0 6 := ⟨by have q1 := u3; omega, by have q1 := u3; omega⟩
                  refine m_iadd C dX12_takePerson_186 ?_
                  refine m_topi (fun x336 ex336 => ?_)
                  have tx336 : x336.toInt = (gV τ 23 0 152).toInt + 1 := by rw [ex336, ti_addv b335 kc_1 (by decide), kt_1]
                  have b337 : IV x336 1 7 := by rw [ex336]; exact iv_add b335 kc_1 (by decide)
                  refine as_23 C kc_152 (by decide) kn_152 dX12_takePerson_187 ?_
                  refine m_tops (fun τ338 eτ338 => ?_)
                  have i339 : Inv τ338 := eτ338 ▸ Inv.putR i323 (by decide) (iv_wk b337 (by decide))
                  have f340 : Fr MS_X12_takePersonE AS_X12_takePersonE σ τ338 := eτ338 ▸ Fr.put (f324) (Or.inr (by decide))
                  have v341 : CP (gV σ 23 0 152).toInt τ338 := v325.put eτ338 (Or.inr (fun q hq => by omega))
                  have v342 : TpM τ338 T N := v326.put eτ338 (Or.inl (by decide)) (by decide)
                  have v343 : CQ (gV σ 23 0 152).toInt.toNat τ338 := v327.put eτ338 (Or.inl (by decide)) (Or.inr (by omega))
                  refine m_aload_n C dX12_takePerson_188 rfl rfl ?_
                  have q344 : (gV τ338 22 0 6).toInt = (gV τ 22 0 6).toInt := congrArg Int32.toInt (show (gV τ338 22 0 6) = (gV τ 22 0 6) from (show gV τ338 22 0 6 = (gV τ 22 0 6) from gV_put eτ338 (show gV τ322 22 0 6 = (gV τ 22 0 6) from gV_put eτ322 (show gV τ314 22 0 6 = (gV τ 22 0 6) from gV_put eτ314 (show gV τ295 22 0 6 = (gV τ 22 0 6) from gV_put eτ295 (show gV τ279 22 0 6 = (gV τ 22 0 6) from (f281.1 22 0 (6) (by decide) (by decide)).trans (show gV τ257 22 0 6 = (gV τ 22 0 6) from gV_put eτ257 (show gV τ70 22 0 6 = (gV τ 22 0 6) from (f72.1 22 0 (6) (by decide) (by decide)).trans (show gV τ51 22 0 6 = (gV τ 22 0 6) from gV_put eτ51 (show gV τ30 22 0 6 = (gV τ 22 0 6) from (f32.1 22 0 (6) (by decide) (by decide)).trans rfl))))))))))
                  have q345 : (gV τ338 23 0 150).toInt = (gV τ 23 0 150).toInt := congrArg Int32.toInt (show (gV τ338 23 0 150) = (gV τ 23 0 150) from (show gV τ338 23 0 150 = (gV τ 23 0 150) from gV_put eτ338 (show gV τ322 23 0 150 = (gV τ 23 0 150) from (gV_putn eτ322 (Or.inr (Or.inr (by omega)))).trans (show gV τ314 23 0 150 = (gV τ 23 0 150) from (gV_putn eτ314 (Or.inr (Or.inr (by omega)))).trans (show gV τ295 23 0 150 = (gV τ 23 0 150) from (gV_putn eτ295 (Or.inr (Or.inr (by omega)))).trans (show gV τ279 23 0 150 = (gV τ 23 0 150) from (f281.1 23 0 (150) (by decide) (by decide)).trans (show gV τ257 23 0 150 = (gV τ 23 0 150) from (gV_putn eτ257 (Or.inr (Or.inr (by omega)))).trans (show gV τ70 23 0 150 = (gV τ 23 0 150) from (f72.1 23 0 (150) (by decide) (by decide)).trans (show gV τ51 23 0 150 = (gV τ 23 0 150) from (gV_putn eτ51 (Or.inr (Or.inr (by omega)))).trans (show gV τ30 23 0 150 = (gV τ 23 0 150) from (f32.1 23 0 (150) (by decide) (by decide)).trans rfl))))))))))
                  have q346 : (gV τ338 23 0 188).toInt = (gV τ 23 0 188).toInt := congrArg Int32.toInt (show (gV τ338 23 0 188) = (gV τ 23 0 188) from (show gV τ338 23 0 188 = (gV τ 23 0 188) from gV_put eτ338 (show gV τ322 23 0 188 = (gV τ 23 0 188) from (gV_putn eτ322 (Or.inr (Or.inr (by omega)))).trans (show gV τ314 23 0 188 = (gV τ 23 0 188) from (gV_putn eτ314 (Or.inr (Or.inr (by omega)))).trans (show gV τ295 23 0 188 = (gV τ 23 0 188) from (gV_putn eτ295 (Or.inr (Or.inr (by omega)))).trans (show gV τ279 23 0 188 = (gV τ 23 0 188) from (f281.1 23 0 (188) (by decide) (by decide)).trans (show gV τ257 23 0 188 = (gV τ 23 0 188) from (gV_putn eτ257 (Or.inr (Or.inr (by omega)))).trans (show gV τ70 23 0 188 = (gV τ 23 0 188) from (f72.1 23 0 (188) (by decide) (by decide)).trans (show gV τ51 23 0 188 = (gV τ 23 0 188) from (gV_putn eτ51 (Or.inr (Or.inr (by omega)))).trans (show gV τ30 23 0 188 = (gV τ 23 0 188) from (f32.1 23 0 (188) (by decide) (by decide)).trans rfl))))))))))
                  have q347 : (gV τ338 22 0 11).toInt = (gV τ279 22 0 11).toInt := congrArg Int32.toInt (show (gV τ338 22 0 11) = (gV τ279 22 0 11) from (show gV τ338 22 0 11 = (gV τ279 22 0 11) from gV_put eτ338 (show gV τ322 22 0 11 = (gV τ279 22 0 11) from gV_put eτ322 (show gV τ314 22 0 11 = (gV τ279 22 0 11) from gV_put eτ314 (show gV τ295 22 0 11 = (gV τ279 22 0 11) from gV_put eτ295 rfl)))))
                  have q348 : (gV τ338 22 0 12).toInt = (gV τ279 22 0 12).toInt := congrArg Int32.toInt (show (gV τ338 22 0 12) = (gV τ279 22 0 12) from (show gV τ338 22 0 12 = (gV τ279 22 0 12) from gV_put eτ338 (show gV τ322 22 0 12 = (gV τ279 22 0 12) from gV_put eτ322 (show gV τ314 22 0 12 = (gV τ279 22 0 12) from gV_put eτ314 (show gV τ295 22 0 12 = (gV τ279 22 0 12) from gV_put eτ295 rfl)))))
                  have q349 : (gV τ338 22 0 16).toInt = (gV τ279 22 0 16).toInt := congrArg Int32.toInt (show (gV τ338 22 0 16) = (gV τ279 22 0 16) from (show gV τ338 22 0 16 = (gV τ279 22 0 16) from gV_put eτ338 (show gV τ322 22 0 16 = (gV τ279 22 0 16) from gV_put eτ322 (show gV τ314 22 0 16 = (gV τ279 22 0 16) from gV_put eτ314 (show gV τ295 22 0 16 = (gV τ279 22 0 16) from gV_put eτ295 rfl)))))
                  have q350 : (gV τ338 23 0 152).toInt = x336.toInt := congrArg Int32.toInt (show (gV τ338 23 0 152) = x336 from (show gV τ338 23 0 152 = x336 from gV_put eτ338 (gV_self _ _ _ _ _)))
                  refine m_callV (n := 0) (ci := 11) (st := []) C (c_X12_takeSignE l G τ338 T N (tE T N (tE T N (tE T N (tE T N i))))  i339 v342 (fun h => absurd h (by omega)) (by omega)) (by decide) (by decide) rfl rfl rfl q5_15 q5_12 q5_14 q0_32 q1_7 (by decide +kernel) rfl (by decide) (by decide) rfl (Nat.le_of_ble_eq_true rfl) dX12_takePerson_189 ?_
                  rintro _ τ351 ⟨rfl, i352, f353, h357⟩
                  have g356 : Fr MS_X12_takePersonE AS_X12_takePersonE σ τ351 := Fr.call (f340) f353 (by decide)
                  have v358 : CP (gV σ 23 0 152).toInt τ351 := v341.call (fun k => f353.1 23 0 k (by simp) (by decide))
                  have v359 : TpM τ351 T N := v342.fr f353 (by decide) (by decide) (by simp) (by decide)
                  have u360 : IV (gV τ351 22 0 11) 0 400 := i352.1 22 0 11
                  have q361 : (gV τ351 22 0 6).toInt = (gV τ 22 0 6).toInt := congrArg Int32.toInt (show (gV τ351 22 0 6) = (gV τ 22 0 6) from (show gV τ351 22 0 6 = (gV τ 22 0 6) from (f353.1 22 0 (6) (by decide) (by decide)).trans (show gV τ338 22 0 6 = (gV τ 22 0 6) from gV_put eτ338 (show gV τ322 22 0 6 = (gV τ 22 0 6) from gV_put eτ322 (show gV τ314 22 0 6 = (gV τ 22 0 6) from gV_put eτ314 (show gV τ295 22 0 6 = (gV τ 22 0 6) from gV_put eτ295 (show gV τ279 22 0 6 = (gV τ 22 0 6) from (f281.1 22 0 (6) (by decide) (by decide)).trans (show gV τ257 22 0 6 = (gV τ 22 0 6) from gV_put eτ257 (show gV τ70 22 0 6 = (gV τ 22 0 6) from (f72.1 22 0 (6) (by decide) (by decide)).trans (show gV τ51 22 0 6 = (gV τ 22 0 6) from gV_put eτ51 (show gV τ30 22 0 6 = (gV τ 22 0 6) from (f32.1 22 0 (6) (by decide) (by decide)).trans rfl)))))))))))
                  have q362 : (gV τ351 23 0 150).toInt = (gV τ 23 0 150).toInt := congrArg Int32.toInt (show (gV τ351 23 0 150) = (gV τ 23 0 150) from (show gV τ351 23 0 150 = (gV τ 23 0 150) from (f353.1 23 0 (150) (by decide) (by decide)).trans (show gV τ338 23 0 150 = (gV τ 23 0 150) from gV_put eτ338 (show gV τ322 23 0 150 = (gV τ 23 0 150) from (gV_putn eτ322 (Or.inr (Or.inr (by omega)))).trans (show gV τ314 23 0 150 = (gV τ 23 0 150) from (gV_putn eτ314 (Or.inr (Or.inr (by omega)))).trans (show gV τ295 23 0 150 = (gV τ 23 0 150) from (gV_putn eτ295 (Or.inr (Or.inr (by omega)))).trans (show gV τ279 23 0 150 = (gV τ 23 0 150) from (f281.1 23 0 (150) (by decide) (by decide)).trans (show gV τ257 23 0 150 = (gV τ 23 0 150) from (gV_putn eτ257 (Or.inr (Or.inr (by omega)))).trans (show gV τ70 23 0 150 = (gV τ 23 0 150) from (f72.1 23 0 (150) (by decide) (by decide)).trans (show gV τ51 23 0 150 = (gV τ 23 0 150) from (gV_putn eτ51 (Or.inr (Or.inr (by omega)))).trans (show gV τ30 23 0 150 = (gV τ 23 0 150) from (f32.1 23 0 (150) (by decide) (by decide)).trans rfl)))))))))))
                  have q363 : (gV τ351 23 0 188).toInt = (gV τ 23 0 188).toInt := congrArg Int32.toInt (show (gV τ351 23 0 188) = (gV τ 23 0 188) from (show gV τ351 23 0 188 = (gV τ 23 0 188) from (f353.1 23 0 (188) (by decide) (by decide)).trans (show gV τ338 23 0 188 = (gV τ 23 0 188) from gV_put eτ338 (show gV τ322 23 0 188 = (gV τ 23 0 188) from (gV_putn eτ322 (Or.inr (Or.inr (by omega)))).trans (show gV τ314 23 0 188 = (gV τ 23 0 188) from (gV_putn eτ314 (Or.inr (Or.inr (by omega)))).trans (show gV τ295 23 0 188 = (gV τ 23 0 188) from (gV_putn eτ295 (Or.inr (Or.inr (by omega)))).trans (show gV τ279 23 0 188 = (gV τ 23 0 188) from (f281.1 23 0 (188) (by decide) (by decide)).trans (show gV τ257 23 0 188 = (gV τ 23 0 188) from (gV_putn eτ257 (Or.inr (Or.inr (by omega)))).trans (show gV τ70 23 0 188 = (gV τ 23 0 188) from (f72.1 23 0 (188) (by decide) (by decide)).trans (show gV τ51 23 0 188 = (gV τ 23 0 188) from (gV_putn eτ51 (Or.inr (Or.inr (by omega)))).trans (show gV τ30 23 0 188 = (gV τ 23 0 188) from (f32.1 23 0 (188) (by decide) (by decide)).trans rfl)))))))))))
                  have q364 : (gV τ351 23 0 152).toInt = x336.toInt := congrArg Int32.toInt (show (gV τ351 23 0 152) = x336 from (show gV τ351 23 0 152 = x336 from (f353.1 23 0 (152) (by decide) (by decide)).trans (show gV τ338 23 0 152 = x336 from gV_put eτ338 (gV_self _ _ _ _ _))))
                  rcases h357 with ⟨h357_0, h357_1, h357_2, h357_3⟩ | ⟨h357_0, h357_1, h357_2, h357_3, h357_4⟩ | ⟨h357_0, h357_1, h357_2, h357_3, h357_4, h357_5⟩
                  · skip
                    have v365 : CQ (gV σ 23 0 152).toInt.toNat τ351 := v343.call (fun q => by omega) (fun k => f353.1 23 0 k (by simp) (by decide))
                    show MW p l e _ s m args below meth c _ 4 G 0 0 192 [some (.ref (G.1 22 0)), some (.int y1), some (.int z0), some (.int 0)] [] τ351
                    exact m_vret C hr hlk (by decide) (by decide) dX12_takePerson_192 ⟨rfl, i352, g356, (by have qd := per_4 T N st cc i (by omega) (by omega) (by omega) (by omega) (by omega); exact Or.inl ⟨by omega, by omega, by omega, by omega, by omega, by omega⟩)⟩
                  · skip
                    exfalso; omega
                  · skip
                    exfalso; omega
                · first | exact absurd c312 (by decide) | exact absurd (by decide) c312
              · exfalso
                have q : _ := c308
                simp only [ti_nle, ti_nlt, ti_le, ti_lt, ti_eq, ti_ne, Classical.not_not, kt_0] at q
                have q1 := b294; have q2 := kc_0; omega
            · skip
              have b368 : IV x282 (-1) (-1) := ⟨by omega, by omega⟩
              have b369 : IV (gV τ279 22 0 16) 2 2 := ⟨by omega, by omega⟩
              show MW p l e _ s m args below meth c _ 4 G 0 0 110 [some (.ref (G.1 22 0)), some (.int y1), some (.int z0), none] [.int x282, .int x264, .ref (G.1 23 0)] τ279
              refine m_goto (tgt := 114) C dX12_takePerson_110 (by decide) ?_
              refine as_23 C b265 (by decide) rfl dX12_takePerson_114 ?_
              refine m_tops (fun τ370 eτ370 => ?_)
              have i371 : Inv τ370 := eτ370 ▸ Inv.putRo i280 (by omega)
              have f372 : Fr MS_X12_takePersonE AS_X12_takePersonE σ τ370 := eτ370 ▸ Fr.put (g284) (Or.inr (by decide))
              have v373 : CP (gV σ 23 0 152).toInt τ370 := v286.put eτ370 (Or.inr (fun q hq => by omega))
              have v374 : TpM τ370 T N := v287.put eτ370 (Or.inl (by decide)) (by decide)
              have q375 : (gV τ370 22 0 6).toInt = (gV τ 22 0 6).toInt := congrArg Int32.toInt (show (gV τ370 22 0 6) = (gV τ 22 0 6) from (show gV τ370 22 0 6 = (gV τ 22 0 6) from gV_put eτ370 (show gV τ279 22 0 6 = (gV τ 22 0 6) from (f281.1 22 0 (6) (by decide) (by decide)).trans (show gV τ257 22 0 6 = (gV τ 22 0 6) from gV_put eτ257 (show gV τ70 22 0 6 = (gV τ 22 0 6) from (f72.1 22 0 (6) (by decide) (by decide)).trans (show gV τ51 22 0 6 = (gV τ 22 0 6) from gV_put eτ51 (show gV τ30 22 0 6 = (gV τ 22 0 6) from (f32.1 22 0 (6) (by decide) (by decide)).trans rfl)))))))
              have q376 : (gV τ370 23 0 150).toInt = (gV τ 23 0 150).toInt := congrArg Int32.toInt (show (gV τ370 23 0 150) = (gV τ 23 0 150) from (show gV τ370 23 0 150 = (gV τ 23 0 150) from (gV_putn eτ370 (Or.inr (Or.inr (by omega)))).trans (show gV τ279 23 0 150 = (gV τ 23 0 150) from (f281.1 23 0 (150) (by decide) (by decide)).trans (show gV τ257 23 0 150 = (gV τ 23 0 150) from (gV_putn eτ257 (Or.inr (Or.inr (by omega)))).trans (show gV τ70 23 0 150 = (gV τ 23 0 150) from (f72.1 23 0 (150) (by decide) (by decide)).trans (show gV τ51 23 0 150 = (gV τ 23 0 150) from (gV_putn eτ51 (Or.inr (Or.inr (by omega)))).trans (show gV τ30 23 0 150 = (gV τ 23 0 150) from (f32.1 23 0 (150) (by decide) (by decide)).trans rfl)))))))
              have q377 : (gV τ370 23 0 152).toInt = (gV τ 23 0 152).toInt := congrArg Int32.toInt (show (gV τ370 23 0 152) = (gV τ 23 0 152) from (show gV τ370 23 0 152 = (gV τ 23 0 152) from (gV_putn eτ370 (Or.inr (Or.inr (by omega)))).trans (show gV τ279 23 0 152 = (gV τ 23 0 152) from (f281.1 23 0 (152) (by decide) (by decide)).trans (show gV τ257 23 0 152 = (gV τ 23 0 152) from (gV_putn eτ257 (Or.inr (Or.inr (by omega)))).trans (show gV τ70 23 0 152 = (gV τ 23 0 152) from (f72.1 23 0 (152) (by decide) (by decide)).trans (show gV τ51 23 0 152 = (gV τ 23 0 152) from (gV_putn eτ51 (Or.inr (Or.inr (by omega)))).trans (show gV τ30 23 0 152 = (gV τ 23 0 152) from (f32.1 23 0 (152) (by decide) (by decide)).trans rfl)))))))
              have q378 : (gV τ370 23 0 188).toInt = (gV τ 23 0 188).toInt := congrArg Int32.toInt (show (gV τ370 23 0 188) = (gV τ 23 0 188) from (show gV τ370 23 0 188 = (gV τ 23 0 188) from (gV_putn eτ370 (Or.inr (Or.inr (by omega)))).trans (show gV τ279 23 0 188 = (gV τ 23 0 188) from (f281.1 23 0 (188) (by decide) (by decide)).trans (show gV τ257 23 0 188 = (gV τ 23 0 188) from (gV_putn eτ257 (Or.inr (Or.inr (by omega)))).trans (show gV τ70 23 0 188 = (gV τ 23 0 188) from (f72.1 23 0 (188) (by decide) (by decide)).trans (show gV τ51 23 0 188 = (gV τ 23 0 188) from (gV_putn eτ51 (Or.inr (Or.inr (by omega)))).trans (show gV τ30 23 0 188 = (gV τ 23 0 188) from (f32.1 23 0 (188) (by decide) (by decide)).trans rfl)))))))
              have q379 : (gV τ370 22 0 11).toInt = (gV τ279 22 0 11).toInt := congrArg Int32.toInt (show (gV τ370 22 0 11) = (gV τ279 22 0 11) from (show gV τ370 22 0 11 = (gV τ279 22 0 11) from gV_put eτ370 rfl))
              have q380 : (gV τ370 22 0 12).toInt = (gV τ279 22 0 12).toInt := congrArg Int32.toInt (show (gV τ370 22 0 12) = (gV τ279 22 0 12) from (show gV τ370 22 0 12 = (gV τ279 22 0 12) from gV_put eτ370 rfl))
              have q381 : (gV τ370 22 0 16).toInt = (gV τ279 22 0 16).toInt := congrArg Int32.toInt (show (gV τ370 22 0 16) = (gV τ279 22 0 16) from (show gV τ370 22 0 16 = (gV τ279 22 0 16) from gV_put eτ370 rfl))
              have v382 : CQ (gV σ 23 0 152).toInt.toNat τ370 := by
                intro q
                have q1 : gV τ370 23 0 (x264.toInt.toNat) = x282 := (show gV τ370 23 0 (x264.toInt.toNat) = x282 from gV_put eτ370 (gV_self _ _ _ _ _))
                rw [show 167 + (gV σ 23 0 152).toInt.toNat = (x264.toInt.toNat) by omega, q1]
                omega
              refine m_aload_n C dX12_takePerson_115 rfl rfl ?_
              refine g_22_16 C q4_132 dX12_takePerson_116 ?_
              refine m_eqs (w := (gV τ279 22 0 16)) (show gV τ370 22 0 16 = (gV τ279 22 0 16) from gV_put eτ370 rfl) ?_
              refine m_if_ne (tgt := 142) C dX12_takePerson_119 (by decide) (fun c383 => ?_) (fun c383 => ?_)
              · have f384 : (gV τ279 22 0 16).toInt ≠ 0 := by
                  have q : _ := c383
                  simp only [ti_nle, ti_nlt, ti_le, ti_lt, ti_eq, ti_ne, Classical.not_not, kt_0] at q
                  omega
                refine m_iconst (v := 0) C dX12_takePerson_142 (by decide) ?_
                refine m_istore_n (L1 := [some (.ref (G.1 22 0)), some (.int y1), some (.int z0), some (.int 0)]) C dX12_takePerson_143 rfl (by decide) rfl rfl ?_
                refine m_aload_n C dX12_takePerson_144 rfl rfl ?_
                refine g_22_0 C q4_116 dX12_takePerson_145 ?_
                refine m_sipush (v := 174) C dX12_takePerson_148 (by decide) ?_
                refine m_iload_n C dX12_takePerson_151 rfl rfl ?_
                refine m_iadd C dX12_takePerson_152 ?_
                refine m_topi (fun x385 ex385 => ?_)
                have tx385 : x385.toInt = 174 + y1.toInt := by rw [ex385, ti_addv kc_174 b_y1 (by decide), kt_174]
                have b386 : IV x385 174 180 := by rw [ex385]; exact iv_add kc_174 b_y1 (by decide)
                refine m_iload_n C dX12_takePerson_153 rfl rfl ?_
                refine m_bipush (v := 99) C dX12_takePerson_154 (by decide) ?_
                refine m_icmp_ne (tgt := 163) C dX12_takePerson_156 (by decide) (fun c387 => ?_) (fun c387 => ?_)
                · have f388 : 0 ≠ 99 := by
                    have q : _ := c387
                    simp only [ti_nle, ti_nlt, ti_le, ti_lt, ti_eq, ti_ne, Classical.not_not, kt_0, kt_99] at q
                    omega
                  refine m_iload_n C dX12_takePerson_163 rfl rfl ?_
                  refine as_23 C b386 (by decide) rfl dX12_takePerson_164 ?_
                  refine m_tops (fun τ389 eτ389 => ?_)
                  have i390 : Inv τ389 := eτ389 ▸ Inv.putR0 i371 (by omega) kt_0
                  have f391 : Fr MS_X12_takePersonE AS_X12_takePersonE σ τ389 := eτ389 ▸ Fr.put (f372) (Or.inr (by decide))
                  have v392 : CP (gV σ 23 0 152).toInt τ389 := v373.put eτ389 (Or.inr (fun q hq => by omega))
                  have v393 : TpM τ389 T N := v374.put eτ389 (Or.inl (by decide)) (by decide)
                  have v394 : CQ (gV σ 23 0 152).toInt.toNat τ389 := v382.put eτ389 (Or.inl (by decide)) (Or.inr (by omega))
                  refine m_aload_n C dX12_takePerson_165 rfl rfl ?_
                  refine g_22_0 C q4_116 dX12_takePerson_166 ?_
                  refine m_sipush (v := 181) C dX12_takePerson_169 (by decide) ?_
                  refine m_iload_n C dX12_takePerson_172 rfl rfl ?_
                  refine m_iadd C dX12_takePerson_173 ?_
                  refine m_topi (fun x395 ex395 => ?_)
                  have tx395 : x395.toInt = 181 + y1.toInt := by rw [ex395, ti_addv kc_181 b_y1 (by decide), kt_181]
                  have b396 : IV x395 181 187 := by rw [ex395]; exact iv_add kc_181 b_y1 (by decide)
                  refine m_iconst (v := 0) C dX12_takePerson_174 (by decide) ?_
                  refine as_23 C b396 (by decide) rfl dX12_takePerson_175 ?_
                  refine m_tops (fun τ397 eτ397 => ?_)
                  have i398 : Inv τ397 := eτ397 ▸ Inv.putR0 i390 (by omega) kt_0
                  have f399 : Fr MS_X12_takePersonE AS_X12_takePersonE σ τ397 := eτ397 ▸ Fr.put (f391) (Or.inr (by decide))
                  have v400 : CP (gV σ 23 0 152).toInt τ397 := v392.put eτ397 (Or.inr (fun q hq => by omega))
                  have v401 : TpM τ397 T N := v393.put eτ397 (Or.inl (by decide)) (by decide)
                  have v402 : CQ (gV σ 23 0 152).toInt.toNat τ397 := v394.put eτ397 (Or.inl (by decide)) (Or.inr (by omega))
                  refine m_aload_n C dX12_takePerson_176 rfl rfl ?_
                  refine g_22_0 C q4_116 dX12_takePerson_177 ?_
                  refine m_sipush (v := 152) C dX12_takePerson_180 (by decide) ?_
                  refine m_dup2 C dX12_takePerson_183 rfl rfl ?_
                  refine al_23 C kc_152 (by decide) kn_152 dX12_takePerson_184 ?_
                  refine m_eqs (w := (gV τ 23 0 152)) (show gV τ397 23 0 152 = (gV τ 23 0 152) from (gV_putn eτ397 (Or.inr (Or.inr (by omega)))).trans (show gV τ389 23 0 152 = (gV τ 23 0 152) from (gV_putn eτ389 (Or.inr (Or.inr (by omega)))).trans (show gV τ370 23 0 152 = (gV τ 23 0 152) from (gV_putn eτ370 (Or.inr (Or.inr (by omega)))).trans (show gV τ279 23 0 152 = (gV τ 23 0 152) from (f281.1 23 0 (152) (by decide) (by decide)).trans (show gV τ257 23 0 152 = (gV τ 23 0 152) from (gV_putn eτ257 (Or.inr (Or.inr (by omega)))).trans (show gV τ70 23 0 152 = (gV τ 23 0 152) from (f72.1 23 0 (152) (by decide) (by decide)).trans (show gV τ51 23 0 152 = (gV τ 23 0 152) from (gV_putn eτ51 (Or.inr (Or.inr (by omega)))).trans (show gV τ30 23 0 152 = (gV τ 23 0 152) from (f32.1 23 0 (152) (by decide) (by decide)).trans rfl)))))))) ?_
                  refine m_iconst (v := 1) C dX12_takePerson_185 (by decide) ?_
                  have q403 : (gV τ397 22 0 6).toInt = (gV τ 22 0 6).toInt := congrArg Int32.toInt (show (gV τ397 22 0 6) = (gV τ 22 0 6) from (show gV τ397 22 0 6 = (gV τ 22 0 6) from gV_put eτ397 (show gV τ389 22 0 6 = (gV τ 22 0 6) from gV_put eτ389 (show gV τ370 22 0 6 = (gV τ 22 0 6) from gV_put eτ370 (show gV τ279 22 0 6 = (gV τ 22 0 6) from (f281.1 22 0 (6) (by decide) (by decide)).trans (show gV τ257 22 0 6 = (gV τ 22 0 6) from gV_put eτ257 (show gV τ70 22 0 6 = (gV τ 22 0 6) from (f72.1 22 0 (6) (by decide) (by decide)).trans (show gV τ51 22 0 6 = (gV τ 22 0 6) from gV_put eτ51 (show gV τ30 22 0 6 = (gV τ 22 0 6) from (f32.1 22 0 (6) (by decide) (by decide)).trans rfl)))))))))
                  have q404 : (gV τ397 23 0 150).toInt = (gV τ 23 0 150).toInt := congrArg Int32.toInt (show (gV τ397 23 0 150) = (gV τ 23 0 150) from (show gV τ397 23 0 150 = (gV τ 23 0 150) from (gV_putn eτ397 (Or.inr (Or.inr (by omega)))).trans (show gV τ389 23 0 150 = (gV τ 23 0 150) from (gV_putn eτ389 (Or.inr (Or.inr (by omega)))).trans (show gV τ370 23 0 150 = (gV τ 23 0 150) from (gV_putn eτ370 (Or.inr (Or.inr (by omega)))).trans (show gV τ279 23 0 150 = (gV τ 23 0 150) from (f281.1 23 0 (150) (by decide) (by decide)).trans (show gV τ257 23 0 150 = (gV τ 23 0 150) from (gV_putn eτ257 (Or.inr (Or.inr (by omega)))).trans (show gV τ70 23 0 150 = (gV τ 23 0 150) from (f72.1 23 0 (150) (by decide) (by decide)).trans (show gV τ51 23 0 150 = (gV τ 23 0 150) from (gV_putn eτ51 (Or.inr (Or.inr (by omega)))).trans (show gV τ30 23 0 150 = (gV τ 23 0 150) from (f32.1 23 0 (150) (by decide) (by decide)).trans rfl)))))))))
                  have q405 : (gV τ397 23 0 152).toInt = (gV τ 23 0 152).toInt := congrArg Int32.toInt (show (gV τ397 23 0 152) = (gV τ 23 0 152) from (show gV τ397 23 0 152 = (gV τ 23 0 152) from (gV_putn eτ397 (Or.inr (Or.inr (by omega)))).trans (show gV τ389 23 0 152 = (gV τ 23 0 152) from (gV_putn eτ389 (Or.inr (Or.inr (by omega)))).trans (show gV τ370 23 0 152 = (gV τ 23 0 152) from (gV_putn eτ370 (Or.inr (Or.inr (by omega)))).trans (show gV τ279 23 0 152 = (gV τ 23 0 152) from (f281.1 23 0 (152) (by decide) (by decide)).trans (show gV τ257 23 0 152 = (gV τ 23 0 152) from (gV_putn eτ257 (Or.inr (Or.inr (by omega)))).trans (show gV τ70 23 0 152 = (gV τ 23 0 152) from (f72.1 23 0 (152) (by decide) (by decide)).trans (show gV τ51 23 0 152 = (gV τ 23 0 152) from (gV_putn eτ51 (Or.inr (Or.inr (by omega)))).trans (show gV τ30 23 0 152 = (gV τ 23 0 152) from (f32.1 23 0 (152) (by decide) (by decide)).trans rfl)))))))))
                  have q406 : (gV τ397 23 0 188).toInt = (gV τ 23 0 188).toInt := congrArg Int32.toInt (show (gV τ397 23 0 188) = (gV τ 23 0 188) from (show gV τ397 23 0 188 = (gV τ 23 0 188) from (gV_putn eτ397 (Or.inr (Or.inr (by omega)))).trans (show gV τ389 23 0 188 = (gV τ 23 0 188) from (gV_putn eτ389 (Or.inr (Or.inr (by omega)))).trans (show gV τ370 23 0 188 = (gV τ 23 0 188) from (gV_putn eτ370 (Or.inr (Or.inr (by omega)))).trans (show gV τ279 23 0 188 = (gV τ 23 0 188) from (f281.1 23 0 (188) (by decide) (by decide)).trans (show gV τ257 23 0 188 = (gV τ 23 0 188) from (gV_putn eτ257 (Or.inr (Or.inr (by omega)))).trans (show gV τ70 23 0 188 = (gV τ 23 0 188) from (f72.1 23 0 (188) (by decide) (by decide)).trans (show gV τ51 23 0 188 = (gV τ 23 0 188) from (gV_putn eτ51 (Or.inr (Or.inr (by omega)))).trans (show gV τ30 23 0 188 = (gV τ 23 0 188) from (f32.1 23 0 (188) (by decide) (by decide)).trans rfl)))))))))
                  have q407 : (gV τ397 22 0 11).toInt = (gV τ279 22 0 11).toInt := congrArg Int32.toInt (show (gV τ397 22 0 11) = (gV τ279 22 0 11) from (show gV τ397 22 0 11 = (gV τ279 22 0 11) from gV_put eτ397 (show gV τ389 22 0 11 = (gV τ279 22 0 11) from gV_put eτ389 (show gV τ370 22 0 11 = (gV τ279 22 0 11) from gV_put eτ370 rfl))))
                  have q408 : (gV τ397 22 0 12).toInt = (gV τ279 22 0 12).toInt := congrArg Int32.toInt (show (gV τ397 22 0 12) = (gV τ279 22 0 12) from (show gV τ397 22 0 12 = (gV τ279 22 0 12) from gV_put eτ397 (show gV τ389 22 0 12 = (gV τ279 22 0 12) from gV_put eτ389 (show gV τ370 22 0 12 = (gV τ279 22 0 12) from gV_put eτ370 rfl))))
                  have q409 : (gV τ397 22 0 16).toInt = (gV τ279 22 0 16).toInt := congrArg Int32.toInt (show (gV τ397 22 0 16) = (gV τ279 22 0 16) from (show gV τ397 22 0 16 = (gV τ279 22 0 16) from gV_put eτ397 (show gV τ389 22 0 16 = (gV τ279 22 0 16) from gV_put eτ389 (show gV τ370 22 0 16 = (gV τ279 22 0 16) from gV_put eτ370 rfl))))
                  have b410 : IV (gV τ 23 0 152) 0 6 := ⟨by have q1 := u3; omega, by have q1 := u3; omega⟩
                  refine m_iadd C dX12_takePerson_186 ?_
                  refine m_topi (fun x411 ex411 => ?_)
                  have tx411 : x411.toInt = (gV τ 23 0 152).toInt + 1 := by rw [ex411, ti_addv b410 kc_1 (by decide), kt_1]
                  have b412 : IV x411 1 7 := by rw [ex411]; exact iv_add b410 kc_1 (by decide)
                  refine as_23 C kc_152 (by decide) kn_152 dX12_takePerson_187 ?_
                  refine m_tops (fun τ413 eτ413 => ?_)
                  have i414 : Inv τ413 := eτ413 ▸ Inv.putR i398 (by decide) (iv_wk b412 (by decide))
                  have f415 : Fr MS_X12_takePersonE AS_X12_takePersonE σ τ413 := eτ413 ▸ Fr.put (f399) (Or.inr (by decide))
                  have v416 : CP (gV σ 23 0 152).toInt τ413 := v400.put eτ413 (Or.inr (fun q hq => by omega))
                  have v417 : TpM τ413 T N := v401.put eτ413 (Or.inl (by decide)) (by decide)
                  have v418 : CQ (gV σ 23 0 152).toInt.toNat τ413 := v402.put eτ413 (Or.inl (by decide)) (Or.inr (by omega))
                  refine m_aload_n C dX12_takePerson_188 rfl rfl ?_
                  have q419 : (gV τ413 22 0 6).toInt = (gV τ 22 0 6).toInt := congrArg Int32.toInt (show (gV τ413 22 0 6) = (gV τ 22 0 6) from (show gV τ413 22 0 6 = (gV τ 22 0 6) from gV_put eτ413 (show gV τ397 22 0 6 = (gV τ 22 0 6) from gV_put eτ397 (show gV τ389 22 0 6 = (gV τ 22 0 6) from gV_put eτ389 (show gV τ370 22 0 6 = (gV τ 22 0 6) from gV_put eτ370 (show gV τ279 22 0 6 = (gV τ 22 0 6) from (f281.1 22 0 (6) (by decide) (by decide)).trans (show gV τ257 22 0 6 = (gV τ 22 0 6) from gV_put eτ257 (show gV τ70 22 0 6 = (gV τ 22 0 6) from (f72.1 22 0 (6) (by decide) (by decide)).trans (show gV τ51 22 0 6 = (gV τ 22 0 6) from gV_put eτ51 (show gV τ30 22 0 6 = (gV τ 22 0 6) from (f32.1 22 0 (6) (by decide) (by decide)).trans rfl))))))))))
                  have q420 : (gV τ413 23 0 150).toInt = (gV τ 23 0 150).toInt := congrArg Int32.toInt (show (gV τ413 23 0 150) = (gV τ 23 0 150) from (show gV τ413 23 0 150 = (gV τ 23 0 150) from gV_put eτ413 (show gV τ397 23 0 150 = (gV τ 23 0 150) from (gV_putn eτ397 (Or.inr (Or.inr (by omega)))).trans (show gV τ389 23 0 150 = (gV τ 23 0 150) from (gV_putn eτ389 (Or.inr (Or.inr (by omega)))).trans (show gV τ370 23 0 150 = (gV τ 23 0 150) from (gV_putn eτ370 (Or.inr (Or.inr (by omega)))).trans (show gV τ279 23 0 150 = (gV τ 23 0 150) from (f281.1 23 0 (150) (by decide) (by decide)).trans (show gV τ257 23 0 150 = (gV τ 23 0 150) from (gV_putn eτ257 (Or.inr (Or.inr (by omega)))).trans (show gV τ70 23 0 150 = (gV τ 23 0 150) from (f72.1 23 0 (150) (by decide) (by decide)).trans (show gV τ51 23 0 150 = (gV τ 23 0 150) from (gV_putn eτ51 (Or.inr (Or.inr (by omega)))).trans (show gV τ30 23 0 150 = (gV τ 23 0 150) from (f32.1 23 0 (150) (by decide) (by decide)).trans rfl))))))))))
                  have q421 : (gV τ413 23 0 188).toInt = (gV τ 23 0 188).toInt := congrArg Int32.toInt (show (gV τ413 23 0 188) = (gV τ 23 0 188) from (show gV τ413 23 0 188 = (gV τ 23 0 188) from gV_put eτ413 (show gV τ397 23 0 188 = (gV τ 23 0 188) from (gV_putn eτ397 (Or.inr (Or.inr (by omega)))).trans (show gV τ389 23 0 188 = (gV τ 23 0 188) from (gV_putn eτ389 (Or.inr (Or.inr (by omega)))).trans (show gV τ370 23 0 188 = (gV τ 23 0 188) from (gV_putn eτ370 (Or.inr (Or.inr (by omega)))).trans (show gV τ279 23 0 188 = (gV τ 23 0 188) from (f281.1 23 0 (188) (by decide) (by decide)).trans (show gV τ257 23 0 188 = (gV τ 23 0 188) from (gV_putn eτ257 (Or.inr (Or.inr (by omega)))).trans (show gV τ70 23 0 188 = (gV τ 23 0 188) from (f72.1 23 0 (188) (by decide) (by decide)).trans (show gV τ51 23 0 188 = (gV τ 23 0 188) from (gV_putn eτ51 (Or.inr (Or.inr (by omega)))).trans (show gV τ30 23 0 188 = (gV τ 23 0 188) from (f32.1 23 0 (188) (by decide) (by decide)).trans rfl))))))))))
                  have q422 : (gV τ413 22 0 11).toInt = (gV τ279 22 0 11).toInt := congrArg Int32.toInt (show (gV τ413 22 0 11) = (gV τ279 22 0 11) from (show gV τ413 22 0 11 = (gV τ279 22 0 11) from gV_put eτ413 (show gV τ397 22 0 11 = (gV τ279 22 0 11) from gV_put eτ397 (show gV τ389 22 0 11 = (gV τ279 22 0 11) from gV_put eτ389 (show gV τ370 22 0 11 = (gV τ279 22 0 11) from gV_put eτ370 rfl)))))
                  have q423 : (gV τ413 22 0 12).toInt = (gV τ279 22 0 12).toInt := congrArg Int32.toInt (show (gV τ413 22 0 12) = (gV τ279 22 0 12) from (show gV τ413 22 0 12 = (gV τ279 22 0 12) from gV_put eτ413 (show gV τ397 22 0 12 = (gV τ279 22 0 12) from gV_put eτ397 (show gV τ389 22 0 12 = (gV τ279 22 0 12) from gV_put eτ389 (show gV τ370 22 0 12 = (gV τ279 22 0 12) from gV_put eτ370 rfl)))))
                  have q424 : (gV τ413 22 0 16).toInt = (gV τ279 22 0 16).toInt := congrArg Int32.toInt (show (gV τ413 22 0 16) = (gV τ279 22 0 16) from (show gV τ413 22 0 16 = (gV τ279 22 0 16) from gV_put eτ413 (show gV τ397 22 0 16 = (gV τ279 22 0 16) from gV_put eτ397 (show gV τ389 22 0 16 = (gV τ279 22 0 16) from gV_put eτ389 (show gV τ370 22 0 16 = (gV τ279 22 0 16) from gV_put eτ370 rfl)))))
                  have q425 : (gV τ413 23 0 152).toInt = x411.toInt := congrArg Int32.toInt (show (gV τ413 23 0 152) = x411 from (show gV τ413 23 0 152 = x411 from gV_put eτ413 (gV_self _ _ _ _ _)))
                  refine m_callV (n := 0) (ci := 11) (st := []) C (c_X12_takeSignE l G τ413 T N (tE T N (tE T N (tE T N (tE T N i))))  i414 v417 (fun h => absurd h (by omega)) (by omega)) (by decide) (by decide) rfl rfl rfl q5_15 q5_12 q5_14 q0_32 q1_7 (by decide +kernel) rfl (by decide) (by decide) rfl (Nat.le_of_ble_eq_true rfl) dX12_takePerson_189 ?_
                  rintro _ τ426 ⟨rfl, i427, f428, h432⟩
                  have g431 : Fr MS_X12_takePersonE AS_X12_takePersonE σ τ426 := Fr.call (f415) f428 (by decide)
                  have v433 : CP (gV σ 23 0 152).toInt τ426 := v416.call (fun k => f428.1 23 0 k (by simp) (by decide))
                  have v434 : TpM τ426 T N := v417.fr f428 (by decide) (by decide) (by simp) (by decide)
                  have u435 : IV (gV τ426 22 0 11) 0 400 := i427.1 22 0 11
                  have q436 : (gV τ426 22 0 6).toInt = (gV τ 22 0 6).toInt := congrArg Int32.toInt (show (gV τ426 22 0 6) = (gV τ 22 0 6) from (show gV τ426 22 0 6 = (gV τ 22 0 6) from (f428.1 22 0 (6) (by decide) (by decide)).trans (show gV τ413 22 0 6 = (gV τ 22 0 6) from gV_put eτ413 (show gV τ397 22 0 6 = (gV τ 22 0 6) from gV_put eτ397 (show gV τ389 22 0 6 = (gV τ 22 0 6) from gV_put eτ389 (show gV τ370 22 0 6 = (gV τ 22 0 6) from gV_put eτ370 (show gV τ279 22 0 6 = (gV τ 22 0 6) from (f281.1 22 0 (6) (by decide) (by decide)).trans (show gV τ257 22 0 6 = (gV τ 22 0 6) from gV_put eτ257 (show gV τ70 22 0 6 = (gV τ 22 0 6) from (f72.1 22 0 (6) (by decide) (by decide)).trans (show gV τ51 22 0 6 = (gV τ 22 0 6) from gV_put eτ51 (show gV τ30 22 0 6 = (gV τ 22 0 6) from (f32.1 22 0 (6) (by decide) (by decide)).trans rfl)))))))))))
                  have q437 : (gV τ426 23 0 150).toInt = (gV τ 23 0 150).toInt := congrArg Int32.toInt (show (gV τ426 23 0 150) = (gV τ 23 0 150) from (show gV τ426 23 0 150 = (gV τ 23 0 150) from (f428.1 23 0 (150) (by decide) (by decide)).trans (show gV τ413 23 0 150 = (gV τ 23 0 150) from gV_put eτ413 (show gV τ397 23 0 150 = (gV τ 23 0 150) from (gV_putn eτ397 (Or.inr (Or.inr (by omega)))).trans (show gV τ389 23 0 150 = (gV τ 23 0 150) from (gV_putn eτ389 (Or.inr (Or.inr (by omega)))).trans (show gV τ370 23 0 150 = (gV τ 23 0 150) from (gV_putn eτ370 (Or.inr (Or.inr (by omega)))).trans (show gV τ279 23 0 150 = (gV τ 23 0 150) from (f281.1 23 0 (150) (by decide) (by decide)).trans (show gV τ257 23 0 150 = (gV τ 23 0 150) from (gV_putn eτ257 (Or.inr (Or.inr (by omega)))).trans (show gV τ70 23 0 150 = (gV τ 23 0 150) from (f72.1 23 0 (150) (by decide) (by decide)).trans (show gV τ51 23 0 150 = (gV τ 23 0 150) from (gV_putn eτ51 (Or.inr (Or.inr (by omega)))).trans (show gV τ30 23 0 150 = (gV τ 23 0 150) from (f32.1 23 0 (150) (by decide) (by decide)).trans rfl)))))))))))
                  have q438 : (gV τ426 23 0 188).toInt = (gV τ 23 0 188).toInt := congrArg Int32.toInt (show (gV τ426 23 0 188) = (gV τ 23 0 188) from (show gV τ426 23 0 188 = (gV τ 23 0 188) from (f428.1 23 0 (188) (by decide) (by decide)).trans (show gV τ413 23 0 188 = (gV τ 23 0 188) from gV_put eτ413 (show gV τ397 23 0 188 = (gV τ 23 0 188) from (gV_putn eτ397 (Or.inr (Or.inr (by omega)))).trans (show gV τ389 23 0 188 = (gV τ 23 0 188) from (gV_putn eτ389 (Or.inr (Or.inr (by omega)))).trans (show gV τ370 23 0 188 = (gV τ 23 0 188) from (gV_putn eτ370 (Or.inr (Or.inr (by omega)))).trans (show gV τ279 23 0 188 = (gV τ 23 0 188) from (f281.1 23 0 (188) (by decide) (by decide)).trans (show gV τ257 23 0 188 = (gV τ 23 0 188) from (gV_putn eτ257 (Or.inr (Or.inr (by omega)))).trans (show gV τ70 23 0 188 = (gV τ 23 0 188) from (f72.1 23 0 (188) (by decide) (by decide)).trans (show gV τ51 23 0 188 = (gV τ 23 0 188) from (gV_putn eτ51 (Or.inr (Or.inr (by omega)))).trans (show gV τ30 23 0 188 = (gV τ 23 0 188) from (f32.1 23 0 (188) (by decide) (by decide)).trans rfl)))))))))))
                  have q439 : (gV τ426 23 0 152).toInt = x411.toInt := congrArg Int32.toInt (show (gV τ426 23 0 152) = x411 from (show gV τ426 23 0 152 = x411 from (f428.1 23 0 (152) (by decide) (by decide)).trans (show gV τ413 23 0 152 = x411 from gV_put eτ413 (gV_self _ _ _ _ _))))
                  rcases h432 with ⟨h432_0, h432_1, h432_2, h432_3⟩ | ⟨h432_0, h432_1, h432_2, h432_3, h432_4⟩ | ⟨h432_0, h432_1, h432_2, h432_3, h432_4, h432_5⟩
                  · skip
                    have v440 : CQ (gV σ 23 0 152).toInt.toNat τ426 := v418.call (fun q => by omega) (fun k => f428.1 23 0 k (by simp) (by decide))
                    show MW p l e _ s m args below meth c _ 4 G 0 0 192 [some (.ref (G.1 22 0)), some (.int y1), some (.int z0), some (.int 0)] [] τ426
                    exact m_vret C hr hlk (by decide) (by decide) dX12_takePerson_192 ⟨rfl, i427, g431, (by have qd := per_5 T N st cc i (by omega) (by omega) (by omega) (by omega) (by omega) (by omega); exact Or.inl ⟨by omega, by omega, by omega, by omega, by omega, by omega⟩)⟩
                  · skip
                    exfalso; omega
                  · skip
                    exfalso; omega
                · first | exact absurd c387 (by decide) | exact absurd (by decide) c387
              · exfalso
                have q : _ := c383
                simp only [ti_nle, ti_nlt, ti_le, ti_lt, ti_eq, ti_ne, Classical.not_not, kt_0] at q
                have q1 := b369; have q2 := kc_0; omega
            · skip
              have q443 : 1 ≤ tV T (tE T N (tE T N (tE T N i))) ∧ tV T (tE T N (tE T N (tE T N i))) ≤ 4 := by omega
              clear h285_1
              have v444 : CuM T N (tE T N (tE T N (tE T N (tE T N i)))) τ279 := ⟨h285_4, h285_5⟩
              clear h285_4
              have b445 : IV (gV τ279 22 0 16) 0 0 := ⟨by omega, by omega⟩
              show MW p l e _ s m args below meth c _ 4 G 0 0 110 [some (.ref (G.1 22 0)), some (.int y1), some (.int z0), none] [.int x282, .int x264, .ref (G.1 23 0)] τ279
              refine m_goto (tgt := 114) C dX12_takePerson_110 (by decide) ?_
              refine as_23 C b265 (by decide) rfl dX12_takePerson_114 ?_
              refine m_tops (fun τ446 eτ446 => ?_)
              have i447 : Inv τ446 := eτ446 ▸ Inv.putRo i280 (by omega)
              have f448 : Fr MS_X12_takePersonE AS_X12_takePersonE σ τ446 := eτ446 ▸ Fr.put (g284) (Or.inr (by decide))
              have v449 : CP (gV σ 23 0 152).toInt τ446 := v286.put eτ446 (Or.inr (fun q hq => by omega))
              have v450 : TpM τ446 T N := v287.put eτ446 (Or.inl (by decide)) (by decide)
              have v451 : LW T N (tE T N (tE T N (tE T N (tE T N i)))) τ446.2.2.1 := by rw [eτ446]; exact h285_6
              have v452 : CuM T N (tE T N (tE T N (tE T N (tE T N i)))) τ446 := CuM.put v444 eτ446 (Or.inl (by decide))
              have q453 : (gV τ446 22 0 6).toInt = (gV τ 22 0 6).toInt := congrArg Int32.toInt (show (gV τ446 22 0 6) = (gV τ 22 0 6) from (show gV τ446 22 0 6 = (gV τ 22 0 6) from gV_put eτ446 (show gV τ279 22 0 6 = (gV τ 22 0 6) from (f281.1 22 0 (6) (by decide) (by decide)).trans (show gV τ257 22 0 6 = (gV τ 22 0 6) from gV_put eτ257 (show gV τ70 22 0 6 = (gV τ 22 0 6) from (f72.1 22 0 (6) (by decide) (by decide)).trans (show gV τ51 22 0 6 = (gV τ 22 0 6) from gV_put eτ51 (show gV τ30 22 0 6 = (gV τ 22 0 6) from (f32.1 22 0 (6) (by decide) (by decide)).trans rfl)))))))
              have q454 : (gV τ446 23 0 150).toInt = (gV τ 23 0 150).toInt := congrArg Int32.toInt (show (gV τ446 23 0 150) = (gV τ 23 0 150) from (show gV τ446 23 0 150 = (gV τ 23 0 150) from (gV_putn eτ446 (Or.inr (Or.inr (by omega)))).trans (show gV τ279 23 0 150 = (gV τ 23 0 150) from (f281.1 23 0 (150) (by decide) (by decide)).trans (show gV τ257 23 0 150 = (gV τ 23 0 150) from (gV_putn eτ257 (Or.inr (Or.inr (by omega)))).trans (show gV τ70 23 0 150 = (gV τ 23 0 150) from (f72.1 23 0 (150) (by decide) (by decide)).trans (show gV τ51 23 0 150 = (gV τ 23 0 150) from (gV_putn eτ51 (Or.inr (Or.inr (by omega)))).trans (show gV τ30 23 0 150 = (gV τ 23 0 150) from (f32.1 23 0 (150) (by decide) (by decide)).trans rfl)))))))
              have q455 : (gV τ446 23 0 152).toInt = (gV τ 23 0 152).toInt := congrArg Int32.toInt (show (gV τ446 23 0 152) = (gV τ 23 0 152) from (show gV τ446 23 0 152 = (gV τ 23 0 152) from (gV_putn eτ446 (Or.inr (Or.inr (by omega)))).trans (show gV τ279 23 0 152 = (gV τ 23 0 152) from (f281.1 23 0 (152) (by decide) (by decide)).trans (show gV τ257 23 0 152 = (gV τ 23 0 152) from (gV_putn eτ257 (Or.inr (Or.inr (by omega)))).trans (show gV τ70 23 0 152 = (gV τ 23 0 152) from (f72.1 23 0 (152) (by decide) (by decide)).trans (show gV τ51 23 0 152 = (gV τ 23 0 152) from (gV_putn eτ51 (Or.inr (Or.inr (by omega)))).trans (show gV τ30 23 0 152 = (gV τ 23 0 152) from (f32.1 23 0 (152) (by decide) (by decide)).trans rfl)))))))
              have q456 : (gV τ446 23 0 188).toInt = (gV τ 23 0 188).toInt := congrArg Int32.toInt (show (gV τ446 23 0 188) = (gV τ 23 0 188) from (show gV τ446 23 0 188 = (gV τ 23 0 188) from (gV_putn eτ446 (Or.inr (Or.inr (by omega)))).trans (show gV τ279 23 0 188 = (gV τ 23 0 188) from (f281.1 23 0 (188) (by decide) (by decide)).trans (show gV τ257 23 0 188 = (gV τ 23 0 188) from (gV_putn eτ257 (Or.inr (Or.inr (by omega)))).trans (show gV τ70 23 0 188 = (gV τ 23 0 188) from (f72.1 23 0 (188) (by decide) (by decide)).trans (show gV τ51 23 0 188 = (gV τ 23 0 188) from (gV_putn eτ51 (Or.inr (Or.inr (by omega)))).trans (show gV τ30 23 0 188 = (gV τ 23 0 188) from (f32.1 23 0 (188) (by decide) (by decide)).trans rfl)))))))
              have q457 : (gV τ446 22 0 11).toInt = (gV τ279 22 0 11).toInt := congrArg Int32.toInt (show (gV τ446 22 0 11) = (gV τ279 22 0 11) from (show gV τ446 22 0 11 = (gV τ279 22 0 11) from gV_put eτ446 rfl))
              have q458 : (gV τ446 22 0 12).toInt = (gV τ279 22 0 12).toInt := congrArg Int32.toInt (show (gV τ446 22 0 12) = (gV τ279 22 0 12) from (show gV τ446 22 0 12 = (gV τ279 22 0 12) from gV_put eτ446 rfl))
              have q459 : (gV τ446 22 0 16).toInt = (gV τ279 22 0 16).toInt := congrArg Int32.toInt (show (gV τ446 22 0 16) = (gV τ279 22 0 16) from (show gV τ446 22 0 16 = (gV τ279 22 0 16) from gV_put eτ446 rfl))
              have v460 : CQ (gV σ 23 0 152).toInt.toNat τ446 := by
                intro q
                have q1 : gV τ446 23 0 (x264.toInt.toNat) = x282 := (show gV τ446 23 0 (x264.toInt.toNat) = x282 from gV_put eτ446 (gV_self _ _ _ _ _))
                rw [show 167 + (gV σ 23 0 152).toInt.toNat = (x264.toInt.toNat) by omega, q1]
                omega
              refine m_aload_n C dX12_takePerson_115 rfl rfl ?_
              refine g_22_16 C q4_132 dX12_takePerson_116 ?_
              refine m_eqs (w := (gV τ279 22 0 16)) (show gV τ446 22 0 16 = (gV τ279 22 0 16) from gV_put eτ446 rfl) ?_
              refine m_if_ne (tgt := 142) C dX12_takePerson_119 (by decide) (fun c461 => ?_) (fun c461 => ?_)
              · exfalso
                have q : _ := c461
                simp only [ti_nle, ti_nlt, ti_le, ti_lt, ti_eq, ti_ne, Classical.not_not, kt_0] at q
                have q1 := b445; have q2 := kc_0; omega
              · have f463 : (gV τ279 22 0 16).toInt = 0 := by
                  have q : _ := c461
                  simp only [ti_nle, ti_nlt, ti_le, ti_lt, ti_eq, ti_ne, Classical.not_not, kt_0] at q
                  omega
                refine m_aload_n C dX12_takePerson_122 rfl rfl ?_
                refine m_iconst (v := 0) C dX12_takePerson_123 (by decide) ?_
                refine m_aload_n C dX12_takePerson_124 rfl rfl ?_
                refine g_22_0 C q4_116 dX12_takePerson_125 ?_
                refine m_sipush (v := 150) C dX12_takePerson_128 (by decide) ?_
                refine al_23 C kc_150 (by decide) kn_150 dX12_takePerson_131 ?_
                refine m_eqs (w := (gV τ 23 0 150)) (show gV τ446 23 0 150 = (gV τ 23 0 150) from (gV_putn eτ446 (Or.inr (Or.inr (by omega)))).trans (show gV τ279 23 0 150 = (gV τ 23 0 150) from (f281.1 23 0 (150) (by decide) (by decide)).trans (show gV τ257 23 0 150 = (gV τ 23 0 150) from (gV_putn eτ257 (Or.inr (Or.inr (by omega)))).trans (show gV τ70 23 0 150 = (gV τ 23 0 150) from (f72.1 23 0 (150) (by decide) (by decide)).trans (show gV τ51 23 0 150 = (gV τ 23 0 150) from (gV_putn eτ51 (Or.inr (Or.inr (by omega)))).trans (show gV τ30 23 0 150 = (gV τ 23 0 150) from (f32.1 23 0 (150) (by decide) (by decide)).trans rfl)))))) ?_
                have b464 : IV (gV τ 23 0 150) 4 32 := ⟨by have q1 := (iv_any (gV τ 23 0 150)); omega, by have q1 := (iv_any (gV τ 23 0 150)); omega⟩
                refine m_iconst (v := 1) C dX12_takePerson_132 (by decide) ?_
                refine m_isub C dX12_takePerson_133 ?_
                refine m_topi (fun x465 ex465 => ?_)
                have tx465 : x465.toInt = (gV τ 23 0 150).toInt - 1 := by rw [ex465, ti_subv b464 kc_1 (by decide), kt_1]
                have b466 : IV x465 3 31 := by rw [ex465]; exact iv_sub b464 kc_1 (by decide)
                refine m_bipush (v := 99) C dX12_takePerson_134 (by decide) ?_
                have q467 := kt_0
                have q468 := kt_99
                refine m_callV (n := 3) (ci := 11) (st := []) C (c_X12_takeNumberE l G τ446 T N (tE T N (tE T N (tE T N (tE T N i)))) (0) (x465) (99) i447 v450 v452.1 (by omega)) (by decide) (by decide) rfl rfl rfl q5_7 q5_4 q5_6 q0_30 q1_7 (by decide +kernel) rfl (by decide) (by decide) rfl (Nat.le_of_ble_eq_true rfl) dX12_takePerson_136 ?_
                rintro _ τ469 ⟨x472, rfl, i470, f471, b473, h475⟩
                have g474 : Fr MS_X12_takePersonE AS_X12_takePersonE σ τ469 := Fr.call (f448) f471 (by decide)
                have v476 : CP (gV σ 23 0 152).toInt τ469 := v449.call (fun k => f471.1 23 0 k (by simp) (by decide))
                have v477 : TpM τ469 T N := v450.fr f471 (by decide) (by decide) (by simp) (by decide)
                have u478 : IV (gV τ469 22 0 11) 0 400 := i470.1 22 0 11
                have q479 : (gV τ469 22 0 6).toInt = (gV τ 22 0 6).toInt := congrArg Int32.toInt (show (gV τ469 22 0 6) = (gV τ 22 0 6) from (show gV τ469 22 0 6 = (gV τ 22 0 6) from (f471.1 22 0 (6) (by decide) (by decide)).trans (show gV τ446 22 0 6 = (gV τ 22 0 6) from gV_put eτ446 (show gV τ279 22 0 6 = (gV τ 22 0 6) from (f281.1 22 0 (6) (by decide) (by decide)).trans (show gV τ257 22 0 6 = (gV τ 22 0 6) from gV_put eτ257 (show gV τ70 22 0 6 = (gV τ 22 0 6) from (f72.1 22 0 (6) (by decide) (by decide)).trans (show gV τ51 22 0 6 = (gV τ 22 0 6) from gV_put eτ51 (show gV τ30 22 0 6 = (gV τ 22 0 6) from (f32.1 22 0 (6) (by decide) (by decide)).trans rfl))))))))
                have q480 : (gV τ469 23 0 150).toInt = (gV τ 23 0 150).toInt := congrArg Int32.toInt (show (gV τ469 23 0 150) = (gV τ 23 0 150) from (show gV τ469 23 0 150 = (gV τ 23 0 150) from (f471.1 23 0 (150) (by decide) (by decide)).trans (show gV τ446 23 0 150 = (gV τ 23 0 150) from (gV_putn eτ446 (Or.inr (Or.inr (by omega)))).trans (show gV τ279 23 0 150 = (gV τ 23 0 150) from (f281.1 23 0 (150) (by decide) (by decide)).trans (show gV τ257 23 0 150 = (gV τ 23 0 150) from (gV_putn eτ257 (Or.inr (Or.inr (by omega)))).trans (show gV τ70 23 0 150 = (gV τ 23 0 150) from (f72.1 23 0 (150) (by decide) (by decide)).trans (show gV τ51 23 0 150 = (gV τ 23 0 150) from (gV_putn eτ51 (Or.inr (Or.inr (by omega)))).trans (show gV τ30 23 0 150 = (gV τ 23 0 150) from (f32.1 23 0 (150) (by decide) (by decide)).trans rfl))))))))
                have q481 : (gV τ469 23 0 152).toInt = (gV τ 23 0 152).toInt := congrArg Int32.toInt (show (gV τ469 23 0 152) = (gV τ 23 0 152) from (show gV τ469 23 0 152 = (gV τ 23 0 152) from (f471.1 23 0 (152) (by decide) (by decide)).trans (show gV τ446 23 0 152 = (gV τ 23 0 152) from (gV_putn eτ446 (Or.inr (Or.inr (by omega)))).trans (show gV τ279 23 0 152 = (gV τ 23 0 152) from (f281.1 23 0 (152) (by decide) (by decide)).trans (show gV τ257 23 0 152 = (gV τ 23 0 152) from (gV_putn eτ257 (Or.inr (Or.inr (by omega)))).trans (show gV τ70 23 0 152 = (gV τ 23 0 152) from (f72.1 23 0 (152) (by decide) (by decide)).trans (show gV τ51 23 0 152 = (gV τ 23 0 152) from (gV_putn eτ51 (Or.inr (Or.inr (by omega)))).trans (show gV τ30 23 0 152 = (gV τ 23 0 152) from (f32.1 23 0 (152) (by decide) (by decide)).trans rfl))))))))
                have q482 : (gV τ469 23 0 188).toInt = (gV τ 23 0 188).toInt := congrArg Int32.toInt (show (gV τ469 23 0 188) = (gV τ 23 0 188) from (show gV τ469 23 0 188 = (gV τ 23 0 188) from (f471.1 23 0 (188) (by decide) (by decide)).trans (show gV τ446 23 0 188 = (gV τ 23 0 188) from (gV_putn eτ446 (Or.inr (Or.inr (by omega)))).trans (show gV τ279 23 0 188 = (gV τ 23 0 188) from (f281.1 23 0 (188) (by decide) (by decide)).trans (show gV τ257 23 0 188 = (gV τ 23 0 188) from (gV_putn eτ257 (Or.inr (Or.inr (by omega)))).trans (show gV τ70 23 0 188 = (gV τ 23 0 188) from (f72.1 23 0 (188) (by decide) (by decide)).trans (show gV τ51 23 0 188 = (gV τ 23 0 188) from (gV_putn eτ51 (Or.inr (Or.inr (by omega)))).trans (show gV τ30 23 0 188 = (gV τ 23 0 188) from (f32.1 23 0 (188) (by decide) (by decide)).trans rfl))))))))
                rcases h475 with ⟨h475_0, h475_1, h475_2, h475_3, h475_4⟩ | ⟨h475_0, h475_1, h475_2, h475_3, h475_4, h475_5, h475_6⟩ | ⟨h475_0, h475_1, h475_2, h475_3, h475_4, h475_5, h475_6⟩
                · skip
                  have b483 : IV x472 (-1) (-1) := ⟨by omega, by omega⟩
                  have v484 : CQ (gV σ 23 0 152).toInt.toNat τ469 := v460.call (fun q => by omega) (fun k => f471.1 23 0 k (by simp) (by decide))
                  have b485 : IV (gV τ469 22 0 16) 1 1 := ⟨by omega, by omega⟩
                  show MW p l e _ s m args below meth c _ 4 G 0 0 139 [some (.ref (G.1 22 0)), some (.int y1), some (.int z0), none] [.int x472] τ469
                  refine m_goto (tgt := 143) C dX12_takePerson_139 (by decide) ?_
                  refine m_istore_n (L1 := [some (.ref (G.1 22 0)), some (.int y1), some (.int z0), some (.int x472)]) C dX12_takePerson_143 rfl (by decide) rfl rfl ?_
                  refine m_aload_n C dX12_takePerson_144 rfl rfl ?_
                  refine g_22_0 C q4_116 dX12_takePerson_145 ?_
                  refine m_sipush (v := 174) C dX12_takePerson_148 (by decide) ?_
                  refine m_iload_n C dX12_takePerson_151 rfl rfl ?_
                  refine m_iadd C dX12_takePerson_152 ?_
                  refine m_topi (fun x486 ex486 => ?_)
                  have tx486 : x486.toInt = 174 + y1.toInt := by rw [ex486, ti_addv kc_174 b_y1 (by decide), kt_174]
                  have b487 : IV x486 174 180 := by rw [ex486]; exact iv_add kc_174 b_y1 (by decide)
                  refine m_iload_n C dX12_takePerson_153 rfl rfl ?_
                  refine m_bipush (v := 99) C dX12_takePerson_154 (by decide) ?_
                  refine m_icmp_ne (tgt := 163) C dX12_takePerson_156 (by decide) (fun c488 => ?_) (fun c488 => ?_)
                  · have f489 : x472.toInt ≠ 99 := by
                      have q : _ := c488
                      simp only [ti_nle, ti_nlt, ti_le, ti_lt, ti_eq, ti_ne, Classical.not_not, kt_99] at q
                      omega
                    refine m_iload_n C dX12_takePerson_163 rfl rfl ?_
                    refine as_23 C b487 (by decide) rfl dX12_takePerson_164 ?_
                    refine m_tops (fun τ490 eτ490 => ?_)
                    have i491 : Inv τ490 := eτ490 ▸ Inv.putRo i470 (by omega)
                    have f492 : Fr MS_X12_takePersonE AS_X12_takePersonE σ τ490 := eτ490 ▸ Fr.put (g474) (Or.inr (by decide))
                    have v493 : CP (gV σ 23 0 152).toInt τ490 := v476.put eτ490 (Or.inr (fun q hq => by omega))
                    have v494 : TpM τ490 T N := v477.put eτ490 (Or.inl (by decide)) (by decide)
                    have v495 : CQ (gV σ 23 0 152).toInt.toNat τ490 := v484.put eτ490 (Or.inl (by decide)) (Or.inr (by omega))
                    refine m_aload_n C dX12_takePerson_165 rfl rfl ?_
                    refine g_22_0 C q4_116 dX12_takePerson_166 ?_
                    refine m_sipush (v := 181) C dX12_takePerson_169 (by decide) ?_
                    refine m_iload_n C dX12_takePerson_172 rfl rfl ?_
                    refine m_iadd C dX12_takePerson_173 ?_
                    refine m_topi (fun x496 ex496 => ?_)
                    have tx496 : x496.toInt = 181 + y1.toInt := by rw [ex496, ti_addv kc_181 b_y1 (by decide), kt_181]
                    have b497 : IV x496 181 187 := by rw [ex496]; exact iv_add kc_181 b_y1 (by decide)
                    refine m_iconst (v := 0) C dX12_takePerson_174 (by decide) ?_
                    refine as_23 C b497 (by decide) rfl dX12_takePerson_175 ?_
                    refine m_tops (fun τ498 eτ498 => ?_)
                    have i499 : Inv τ498 := eτ498 ▸ Inv.putR0 i491 (by omega) kt_0
                    have f500 : Fr MS_X12_takePersonE AS_X12_takePersonE σ τ498 := eτ498 ▸ Fr.put (f492) (Or.inr (by decide))
                    have v501 : CP (gV σ 23 0 152).toInt τ498 := v493.put eτ498 (Or.inr (fun q hq => by omega))
                    have v502 : TpM τ498 T N := v494.put eτ498 (Or.inl (by decide)) (by decide)
                    have v503 : CQ (gV σ 23 0 152).toInt.toNat τ498 := v495.put eτ498 (Or.inl (by decide)) (Or.inr (by omega))
                    refine m_aload_n C dX12_takePerson_176 rfl rfl ?_
                    refine g_22_0 C q4_116 dX12_takePerson_177 ?_
                    refine m_sipush (v := 152) C dX12_takePerson_180 (by decide) ?_
                    refine m_dup2 C dX12_takePerson_183 rfl rfl ?_
                    refine al_23 C kc_152 (by decide) kn_152 dX12_takePerson_184 ?_
                    refine m_eqs (w := (gV τ 23 0 152)) (show gV τ498 23 0 152 = (gV τ 23 0 152) from (gV_putn eτ498 (Or.inr (Or.inr (by omega)))).trans (show gV τ490 23 0 152 = (gV τ 23 0 152) from (gV_putn eτ490 (Or.inr (Or.inr (by omega)))).trans (show gV τ469 23 0 152 = (gV τ 23 0 152) from (f471.1 23 0 (152) (by decide) (by decide)).trans (show gV τ446 23 0 152 = (gV τ 23 0 152) from (gV_putn eτ446 (Or.inr (Or.inr (by omega)))).trans (show gV τ279 23 0 152 = (gV τ 23 0 152) from (f281.1 23 0 (152) (by decide) (by decide)).trans (show gV τ257 23 0 152 = (gV τ 23 0 152) from (gV_putn eτ257 (Or.inr (Or.inr (by omega)))).trans (show gV τ70 23 0 152 = (gV τ 23 0 152) from (f72.1 23 0 (152) (by decide) (by decide)).trans (show gV τ51 23 0 152 = (gV τ 23 0 152) from (gV_putn eτ51 (Or.inr (Or.inr (by omega)))).trans (show gV τ30 23 0 152 = (gV τ 23 0 152) from (f32.1 23 0 (152) (by decide) (by decide)).trans rfl))))))))) ?_
                    refine m_iconst (v := 1) C dX12_takePerson_185 (by decide) ?_
                    have q504 : (gV τ498 22 0 6).toInt = (gV τ 22 0 6).toInt := congrArg Int32.toInt (show (gV τ498 22 0 6) = (gV τ 22 0 6) from (show gV τ498 22 0 6 = (gV τ 22 0 6) from gV_put eτ498 (show gV τ490 22 0 6 = (gV τ 22 0 6) from gV_put eτ490 (show gV τ469 22 0 6 = (gV τ 22 0 6) from (f471.1 22 0 (6) (by decide) (by decide)).trans (show gV τ446 22 0 6 = (gV τ 22 0 6) from gV_put eτ446 (show gV τ279 22 0 6 = (gV τ 22 0 6) from (f281.1 22 0 (6) (by decide) (by decide)).trans (show gV τ257 22 0 6 = (gV τ 22 0 6) from gV_put eτ257 (show gV τ70 22 0 6 = (gV τ 22 0 6) from (f72.1 22 0 (6) (by decide) (by decide)).trans (show gV τ51 22 0 6 = (gV τ 22 0 6) from gV_put eτ51 (show gV τ30 22 0 6 = (gV τ 22 0 6) from (f32.1 22 0 (6) (by decide) (by decide)).trans rfl))))))))))
                    have q505 : (gV τ498 23 0 150).toInt = (gV τ 23 0 150).toInt := congrArg Int32.toInt (show (gV τ498 23 0 150) = (gV τ 23 0 150) from (show gV τ498 23 0 150 = (gV τ 23 0 150) from (gV_putn eτ498 (Or.inr (Or.inr (by omega)))).trans (show gV τ490 23 0 150 = (gV τ 23 0 150) from (gV_putn eτ490 (Or.inr (Or.inr (by omega)))).trans (show gV τ469 23 0 150 = (gV τ 23 0 150) from (f471.1 23 0 (150) (by decide) (by decide)).trans (show gV τ446 23 0 150 = (gV τ 23 0 150) from (gV_putn eτ446 (Or.inr (Or.inr (by omega)))).trans (show gV τ279 23 0 150 = (gV τ 23 0 150) from (f281.1 23 0 (150) (by decide) (by decide)).trans (show gV τ257 23 0 150 = (gV τ 23 0 150) from (gV_putn eτ257 (Or.inr (Or.inr (by omega)))).trans (show gV τ70 23 0 150 = (gV τ 23 0 150) from (f72.1 23 0 (150) (by decide) (by decide)).trans (show gV τ51 23 0 150 = (gV τ 23 0 150) from (gV_putn eτ51 (Or.inr (Or.inr (by omega)))).trans (show gV τ30 23 0 150 = (gV τ 23 0 150) from (f32.1 23 0 (150) (by decide) (by decide)).trans rfl))))))))))
                    have q506 : (gV τ498 23 0 152).toInt = (gV τ 23 0 152).toInt := congrArg Int32.toInt (show (gV τ498 23 0 152) = (gV τ 23 0 152) from (show gV τ498 23 0 152 = (gV τ 23 0 152) from (gV_putn eτ498 (Or.inr (Or.inr (by omega)))).trans (show gV τ490 23 0 152 = (gV τ 23 0 152) from (gV_putn eτ490 (Or.inr (Or.inr (by omega)))).trans (show gV τ469 23 0 152 = (gV τ 23 0 152) from (f471.1 23 0 (152) (by decide) (by decide)).trans (show gV τ446 23 0 152 = (gV τ 23 0 152) from (gV_putn eτ446 (Or.inr (Or.inr (by omega)))).trans (show gV τ279 23 0 152 = (gV τ 23 0 152) from (f281.1 23 0 (152) (by decide) (by decide)).trans (show gV τ257 23 0 152 = (gV τ 23 0 152) from (gV_putn eτ257 (Or.inr (Or.inr (by omega)))).trans (show gV τ70 23 0 152 = (gV τ 23 0 152) from (f72.1 23 0 (152) (by decide) (by decide)).trans (show gV τ51 23 0 152 = (gV τ 23 0 152) from (gV_putn eτ51 (Or.inr (Or.inr (by omega)))).trans (show gV τ30 23 0 152 = (gV τ 23 0 152) from (f32.1 23 0 (152) (by decide) (by decide)).trans rfl))))))))))
                    have q507 : (gV τ498 23 0 188).toInt = (gV τ 23 0 188).toInt := congrArg Int32.toInt (show (gV τ498 23 0 188) = (gV τ 23 0 188) from (show gV τ498 23 0 188 = (gV τ 23 0 188) from (gV_putn eτ498 (Or.inr (Or.inr (by omega)))).trans (show gV τ490 23 0 188 = (gV τ 23 0 188) from (gV_putn eτ490 (Or.inr (Or.inr (by omega)))).trans (show gV τ469 23 0 188 = (gV τ 23 0 188) from (f471.1 23 0 (188) (by decide) (by decide)).trans (show gV τ446 23 0 188 = (gV τ 23 0 188) from (gV_putn eτ446 (Or.inr (Or.inr (by omega)))).trans (show gV τ279 23 0 188 = (gV τ 23 0 188) from (f281.1 23 0 (188) (by decide) (by decide)).trans (show gV τ257 23 0 188 = (gV τ 23 0 188) from (gV_putn eτ257 (Or.inr (Or.inr (by omega)))).trans (show gV τ70 23 0 188 = (gV τ 23 0 188) from (f72.1 23 0 (188) (by decide) (by decide)).trans (show gV τ51 23 0 188 = (gV τ 23 0 188) from (gV_putn eτ51 (Or.inr (Or.inr (by omega)))).trans (show gV τ30 23 0 188 = (gV τ 23 0 188) from (f32.1 23 0 (188) (by decide) (by decide)).trans rfl))))))))))
                    have q508 : (gV τ498 22 0 11).toInt = (gV τ469 22 0 11).toInt := congrArg Int32.toInt (show (gV τ498 22 0 11) = (gV τ469 22 0 11) from (show gV τ498 22 0 11 = (gV τ469 22 0 11) from gV_put eτ498 (show gV τ490 22 0 11 = (gV τ469 22 0 11) from gV_put eτ490 rfl)))
                    have q509 : (gV τ498 22 0 12).toInt = (gV τ469 22 0 12).toInt := congrArg Int32.toInt (show (gV τ498 22 0 12) = (gV τ469 22 0 12) from (show gV τ498 22 0 12 = (gV τ469 22 0 12) from gV_put eτ498 (show gV τ490 22 0 12 = (gV τ469 22 0 12) from gV_put eτ490 rfl)))
                    have q510 : (gV τ498 22 0 16).toInt = (gV τ469 22 0 16).toInt := congrArg Int32.toInt (show (gV τ498 22 0 16) = (gV τ469 22 0 16) from (show gV τ498 22 0 16 = (gV τ469 22 0 16) from gV_put eτ498 (show gV τ490 22 0 16 = (gV τ469 22 0 16) from gV_put eτ490 rfl)))
                    have b511 : IV (gV τ 23 0 152) 0 6 := ⟨by have q1 := u3; omega, by have q1 := u3; omega⟩
                    refine m_iadd C dX12_takePerson_186 ?_
                    refine m_topi (fun x512 ex512 => ?_)
                    have tx512 : x512.toInt = (gV τ 23 0 152).toInt + 1 := by rw [ex512, ti_addv b511 kc_1 (by decide), kt_1]
                    have b513 : IV x512 1 7 := by rw [ex512]; exact iv_add b511 kc_1 (by decide)
                    refine as_23 C kc_152 (by decide) kn_152 dX12_takePerson_187 ?_
                    refine m_tops (fun τ514 eτ514 => ?_)
                    have i515 : Inv τ514 := eτ514 ▸ Inv.putR i499 (by decide) (iv_wk b513 (by decide))
                    have f516 : Fr MS_X12_takePersonE AS_X12_takePersonE σ τ514 := eτ514 ▸ Fr.put (f500) (Or.inr (by decide))
                    have v517 : CP (gV σ 23 0 152).toInt τ514 := v501.put eτ514 (Or.inr (fun q hq => by omega))
                    have v518 : TpM τ514 T N := v502.put eτ514 (Or.inl (by decide)) (by decide)
                    have v519 : CQ (gV σ 23 0 152).toInt.toNat τ514 := v503.put eτ514 (Or.inl (by decide)) (Or.inr (by omega))
                    refine m_aload_n C dX12_takePerson_188 rfl rfl ?_
                    have q520 : (gV τ514 22 0 6).toInt = (gV τ 22 0 6).toInt := congrArg Int32.toInt (show (gV τ514 22 0 6) = (gV τ 22 0 6) from (show gV τ514 22 0 6 = (gV τ 22 0 6) from gV_put eτ514 (show gV τ498 22 0 6 = (gV τ 22 0 6) from gV_put eτ498 (show gV τ490 22 0 6 = (gV τ 22 0 6) from gV_put eτ490 (show gV τ469 22 0 6 = (gV τ 22 0 6) from (f471.1 22 0 (6) (by decide) (by decide)).trans (show gV τ446 22 0 6 = (gV τ 22 0 6) from gV_put eτ446 (show gV τ279 22 0 6 = (gV τ 22 0 6) from (f281.1 22 0 (6) (by decide) (by decide)).trans (show gV τ257 22 0 6 = (gV τ 22 0 6) from gV_put eτ257 (show gV τ70 22 0 6 = (gV τ 22 0 6) from (f72.1 22 0 (6) (by decide) (by decide)).trans (show gV τ51 22 0 6 = (gV τ 22 0 6) from gV_put eτ51 (show gV τ30 22 0 6 = (gV τ 22 0 6) from (f32.1 22 0 (6) (by decide) (by decide)).trans rfl)))))))))))
                    have q521 : (gV τ514 23 0 150).toInt = (gV τ 23 0 150).toInt := congrArg Int32.toInt (show (gV τ514 23 0 150) = (gV τ 23 0 150) from (show gV τ514 23 0 150 = (gV τ 23 0 150) from gV_put eτ514 (show gV τ498 23 0 150 = (gV τ 23 0 150) from (gV_putn eτ498 (Or.inr (Or.inr (by omega)))).trans (show gV τ490 23 0 150 = (gV τ 23 0 150) from (gV_putn eτ490 (Or.inr (Or.inr (by omega)))).trans (show gV τ469 23 0 150 = (gV τ 23 0 150) from (f471.1 23 0 (150) (by decide) (by decide)).trans (show gV τ446 23 0 150 = (gV τ 23 0 150) from (gV_putn eτ446 (Or.inr (Or.inr (by omega)))).trans (show gV τ279 23 0 150 = (gV τ 23 0 150) from (f281.1 23 0 (150) (by decide) (by decide)).trans (show gV τ257 23 0 150 = (gV τ 23 0 150) from (gV_putn eτ257 (Or.inr (Or.inr (by omega)))).trans (show gV τ70 23 0 150 = (gV τ 23 0 150) from (f72.1 23 0 (150) (by decide) (by decide)).trans (show gV τ51 23 0 150 = (gV τ 23 0 150) from (gV_putn eτ51 (Or.inr (Or.inr (by omega)))).trans (show gV τ30 23 0 150 = (gV τ 23 0 150) from (f32.1 23 0 (150) (by decide) (by decide)).trans rfl)))))))))))
                    have q522 : (gV τ514 23 0 188).toInt = (gV τ 23 0 188).toInt := congrArg Int32.toInt (show (gV τ514 23 0 188) = (gV τ 23 0 188) from (show gV τ514 23 0 188 = (gV τ 23 0 188) from gV_put eτ514 (show gV τ498 23 0 188 = (gV τ 23 0 188) from (gV_putn eτ498 (Or.inr (Or.inr (by omega)))).trans (show gV τ490 23 0 188 = (gV τ 23 0 188) from (gV_putn eτ490 (Or.inr (Or.inr (by omega)))).trans (show gV τ469 23 0 188 = (gV τ 23 0 188) from (f471.1 23 0 (188) (by decide) (by decide)).trans (show gV τ446 23 0 188 = (gV τ 23 0 188) from (gV_putn eτ446 (Or.inr (Or.inr (by omega)))).trans (show gV τ279 23 0 188 = (gV τ 23 0 188) from (f281.1 23 0 (188) (by decide) (by decide)).trans (show gV τ257 23 0 188 = (gV τ 23 0 188) from (gV_putn eτ257 (Or.inr (Or.inr (by omega)))).trans (show gV τ70 23 0 188 = (gV τ 23 0 188) from (f72.1 23 0 (188) (by decide) (by decide)).trans (show gV τ51 23 0 188 = (gV τ 23 0 188) from (gV_putn eτ51 (Or.inr (Or.inr (by omega)))).trans (show gV τ30 23 0 188 = (gV τ 23 0 188) from (f32.1 23 0 (188) (by decide) (by decide)).trans rfl)))))))))))
                    have q523 : (gV τ514 22 0 11).toInt = (gV τ469 22 0 11).toInt := congrArg Int32.toInt (show (gV τ514 22 0 11) = (gV τ469 22 0 11) from (show gV τ514 22 0 11 = (gV τ469 22 0 11) from gV_put eτ514 (show gV τ498 22 0 11 = (gV τ469 22 0 11) from gV_put eτ498 (show gV τ490 22 0 11 = (gV τ469 22 0 11) from gV_put eτ490 rfl))))
                    have q524 : (gV τ514 22 0 12).toInt = (gV τ469 22 0 12).toInt := congrArg Int32.toInt (show (gV τ514 22 0 12) = (gV τ469 22 0 12) from (show gV τ514 22 0 12 = (gV τ469 22 0 12) from gV_put eτ514 (show gV τ498 22 0 12 = (gV τ469 22 0 12) from gV_put eτ498 (show gV τ490 22 0 12 = (gV τ469 22 0 12) from gV_put eτ490 rfl))))
                    have q525 : (gV τ514 22 0 16).toInt = (gV τ469 22 0 16).toInt := congrArg Int32.toInt (show (gV τ514 22 0 16) = (gV τ469 22 0 16) from (show gV τ514 22 0 16 = (gV τ469 22 0 16) from gV_put eτ514 (show gV τ498 22 0 16 = (gV τ469 22 0 16) from gV_put eτ498 (show gV τ490 22 0 16 = (gV τ469 22 0 16) from gV_put eτ490 rfl))))
                    have q526 : (gV τ514 23 0 152).toInt = x512.toInt := congrArg Int32.toInt (show (gV τ514 23 0 152) = x512 from (show gV τ514 23 0 152 = x512 from gV_put eτ514 (gV_self _ _ _ _ _)))
                    refine m_callV (n := 0) (ci := 11) (st := []) C (c_X12_takeSignE l G τ514 T N (tE T N (tE T N (tE T N (tE T N (tE T N i)))))  i515 v518 (fun h => absurd h (by omega)) (by omega)) (by decide) (by decide) rfl rfl rfl q5_15 q5_12 q5_14 q0_32 q1_7 (by decide +kernel) rfl (by decide) (by decide) rfl (Nat.le_of_ble_eq_true rfl) dX12_takePerson_189 ?_
                    rintro _ τ527 ⟨rfl, i528, f529, h533⟩
                    have g532 : Fr MS_X12_takePersonE AS_X12_takePersonE σ τ527 := Fr.call (f516) f529 (by decide)
                    have v534 : CP (gV σ 23 0 152).toInt τ527 := v517.call (fun k => f529.1 23 0 k (by simp) (by decide))
                    have v535 : TpM τ527 T N := v518.fr f529 (by decide) (by decide) (by simp) (by decide)
                    have u536 : IV (gV τ527 22 0 11) 0 400 := i528.1 22 0 11
                    have q537 : (gV τ527 22 0 6).toInt = (gV τ 22 0 6).toInt := congrArg Int32.toInt (show (gV τ527 22 0 6) = (gV τ 22 0 6) from (show gV τ527 22 0 6 = (gV τ 22 0 6) from (f529.1 22 0 (6) (by decide) (by decide)).trans (show gV τ514 22 0 6 = (gV τ 22 0 6) from gV_put eτ514 (show gV τ498 22 0 6 = (gV τ 22 0 6) from gV_put eτ498 (show gV τ490 22 0 6 = (gV τ 22 0 6) from gV_put eτ490 (show gV τ469 22 0 6 = (gV τ 22 0 6) from (f471.1 22 0 (6) (by decide) (by decide)).trans (show gV τ446 22 0 6 = (gV τ 22 0 6) from gV_put eτ446 (show gV τ279 22 0 6 = (gV τ 22 0 6) from (f281.1 22 0 (6) (by decide) (by decide)).trans (show gV τ257 22 0 6 = (gV τ 22 0 6) from gV_put eτ257 (show gV τ70 22 0 6 = (gV τ 22 0 6) from (f72.1 22 0 (6) (by decide) (by decide)).trans (show gV τ51 22 0 6 = (gV τ 22 0 6) from gV_put eτ51 (show gV τ30 22 0 6 = (gV τ 22 0 6) from (f32.1 22 0 (6) (by decide) (by decide)).trans rfl))))))))))))
                    have q538 : (gV τ527 23 0 150).toInt = (gV τ 23 0 150).toInt := congrArg Int32.toInt (show (gV τ527 23 0 150) = (gV τ 23 0 150) from (show gV τ527 23 0 150 = (gV τ 23 0 150) from (f529.1 23 0 (150) (by decide) (by decide)).trans (show gV τ514 23 0 150 = (gV τ 23 0 150) from gV_put eτ514 (show gV τ498 23 0 150 = (gV τ 23 0 150) from (gV_putn eτ498 (Or.inr (Or.inr (by omega)))).trans (show gV τ490 23 0 150 = (gV τ 23 0 150) from (gV_putn eτ490 (Or.inr (Or.inr (by omega)))).trans (show gV τ469 23 0 150 = (gV τ 23 0 150) from (f471.1 23 0 (150) (by decide) (by decide)).trans (show gV τ446 23 0 150 = (gV τ 23 0 150) from (gV_putn eτ446 (Or.inr (Or.inr (by omega)))).trans (show gV τ279 23 0 150 = (gV τ 23 0 150) from (f281.1 23 0 (150) (by decide) (by decide)).trans (show gV τ257 23 0 150 = (gV τ 23 0 150) from (gV_putn eτ257 (Or.inr (Or.inr (by omega)))).trans (show gV τ70 23 0 150 = (gV τ 23 0 150) from (f72.1 23 0 (150) (by decide) (by decide)).trans (show gV τ51 23 0 150 = (gV τ 23 0 150) from (gV_putn eτ51 (Or.inr (Or.inr (by omega)))).trans (show gV τ30 23 0 150 = (gV τ 23 0 150) from (f32.1 23 0 (150) (by decide) (by decide)).trans rfl))))))))))))
                    have q539 : (gV τ527 23 0 188).toInt = (gV τ 23 0 188).toInt := congrArg Int32.toInt (show (gV τ527 23 0 188) = (gV τ 23 0 188) from (show gV τ527 23 0 188 = (gV τ 23 0 188) from (f529.1 23 0 (188) (by decide) (by decide)).trans (show gV τ514 23 0 188 = (gV τ 23 0 188) from gV_put eτ514 (show gV τ498 23 0 188 = (gV τ 23 0 188) from (gV_putn eτ498 (Or.inr (Or.inr (by omega)))).trans (show gV τ490 23 0 188 = (gV τ 23 0 188) from (gV_putn eτ490 (Or.inr (Or.inr (by omega)))).trans (show gV τ469 23 0 188 = (gV τ 23 0 188) from (f471.1 23 0 (188) (by decide) (by decide)).trans (show gV τ446 23 0 188 = (gV τ 23 0 188) from (gV_putn eτ446 (Or.inr (Or.inr (by omega)))).trans (show gV τ279 23 0 188 = (gV τ 23 0 188) from (f281.1 23 0 (188) (by decide) (by decide)).trans (show gV τ257 23 0 188 = (gV τ 23 0 188) from (gV_putn eτ257 (Or.inr (Or.inr (by omega)))).trans (show gV τ70 23 0 188 = (gV τ 23 0 188) from (f72.1 23 0 (188) (by decide) (by decide)).trans (show gV τ51 23 0 188 = (gV τ 23 0 188) from (gV_putn eτ51 (Or.inr (Or.inr (by omega)))).trans (show gV τ30 23 0 188 = (gV τ 23 0 188) from (f32.1 23 0 (188) (by decide) (by decide)).trans rfl))))))))))))
                    have q540 : (gV τ527 23 0 152).toInt = x512.toInt := congrArg Int32.toInt (show (gV τ527 23 0 152) = x512 from (show gV τ527 23 0 152 = x512 from (f529.1 23 0 (152) (by decide) (by decide)).trans (show gV τ514 23 0 152 = x512 from gV_put eτ514 (gV_self _ _ _ _ _))))
                    rcases h533 with ⟨h533_0, h533_1, h533_2, h533_3⟩ | ⟨h533_0, h533_1, h533_2, h533_3, h533_4⟩ | ⟨h533_0, h533_1, h533_2, h533_3, h533_4, h533_5⟩
                    · skip
                      have v541 : CQ (gV σ 23 0 152).toInt.toNat τ527 := v519.call (fun q => by omega) (fun k => f529.1 23 0 k (by simp) (by decide))
                      show MW p l e _ s m args below meth c _ 4 G 0 0 192 [some (.ref (G.1 22 0)), some (.int y1), some (.int z0), some (.int x472)] [] τ527
                      exact m_vret C hr hlk (by decide) (by decide) dX12_takePerson_192 ⟨rfl, i528, g532, (by have qd := per_6 T N st cc i (by omega) (by omega) (by omega) (by omega) (by omega) (by omega) (by omega); exact Or.inl ⟨by omega, by omega, by omega, by omega, by omega, by omega⟩)⟩
                    · skip
                      exfalso; omega
                    · skip
                      exfalso; omega
                  · exfalso
                    have q : _ := c488
                    simp only [ti_nle, ti_nlt, ti_le, ti_lt, ti_eq, ti_ne, Classical.not_not, kt_99] at q
                    have q1 := b483; have q2 := kc_99; omega
                · skip
                  have b543 : IV x472 (-1) (-1) := ⟨by omega, by omega⟩
                  have v544 : CQ (gV σ 23 0 152).toInt.toNat τ469 := v460.call (fun q => by omega) (fun k => f471.1 23 0 k (by simp) (by decide))
                  have b545 : IV (gV τ469 22 0 16) 2 2 := ⟨by omega, by omega⟩
                  show MW p l e _ s m args below meth c _ 4 G 0 0 139 [some (.ref (G.1 22 0)), some (.int y1), some (.int z0), none] [.int x472] τ469
                  refine m_goto (tgt := 143) C dX12_takePerson_139 (by decide) ?_
                  refine m_istore_n (L1 := [some (.ref (G.1 22 0)), some (.int y1), some (.int z0), some (.int x472)]) C dX12_takePerson_143 rfl (by decide) rfl rfl ?_
                  refine m_aload_n C dX12_takePerson_144 rfl rfl ?_
                  refine g_22_0 C q4_116 dX12_takePerson_145 ?_
                  refine m_sipush (v := 174) C dX12_takePerson_148 (by decide) ?_
                  refine m_iload_n C dX12_takePerson_151 rfl rfl ?_
                  refine m_iadd C dX12_takePerson_152 ?_
                  refine m_topi (fun x546 ex546 => ?_)
                  have tx546 : x546.toInt = 174 + y1.toInt := by rw [ex546, ti_addv kc_174 b_y1 (by decide), kt_174]
                  have b547 : IV x546 174 180 := by rw [ex546]; exact iv_add kc_174 b_y1 (by decide)
                  refine m_iload_n C dX12_takePerson_153 rfl rfl ?_
                  refine m_bipush (v := 99) C dX12_takePerson_154 (by decide) ?_
                  refine m_icmp_ne (tgt := 163) C dX12_takePerson_156 (by decide) (fun c548 => ?_) (fun c548 => ?_)
                  · have f549 : x472.toInt ≠ 99 := by
                      have q : _ := c548
                      simp only [ti_nle, ti_nlt, ti_le, ti_lt, ti_eq, ti_ne, Classical.not_not, kt_99] at q
                      omega
                    refine m_iload_n C dX12_takePerson_163 rfl rfl ?_
                    refine as_23 C b547 (by decide) rfl dX12_takePerson_164 ?_
                    refine m_tops (fun τ550 eτ550 => ?_)
                    have i551 : Inv τ550 := eτ550 ▸ Inv.putRo i470 (by omega)
                    have f552 : Fr MS_X12_takePersonE AS_X12_takePersonE σ τ550 := eτ550 ▸ Fr.put (g474) (Or.inr (by decide))
                    have v553 : CP (gV σ 23 0 152).toInt τ550 := v476.put eτ550 (Or.inr (fun q hq => by omega))
                    have v554 : TpM τ550 T N := v477.put eτ550 (Or.inl (by decide)) (by decide)
                    have v555 : CQ (gV σ 23 0 152).toInt.toNat τ550 := v544.put eτ550 (Or.inl (by decide)) (Or.inr (by omega))
                    refine m_aload_n C dX12_takePerson_165 rfl rfl ?_
                    refine g_22_0 C q4_116 dX12_takePerson_166 ?_
                    refine m_sipush (v := 181) C dX12_takePerson_169 (by decide) ?_
                    refine m_iload_n C dX12_takePerson_172 rfl rfl ?_
                    refine m_iadd C dX12_takePerson_173 ?_
                    refine m_topi (fun x556 ex556 => ?_)
                    have tx556 : x556.toInt = 181 + y1.toInt := by rw [ex556, ti_addv kc_181 b_y1 (by decide), kt_181]
                    have b557 : IV x556 181 187 := by rw [ex556]; exact iv_add kc_181 b_y1 (by decide)
                    refine m_iconst (v := 0) C dX12_takePerson_174 (by decide) ?_
                    refine as_23 C b557 (by decide) rfl dX12_takePerson_175 ?_
                    refine m_tops (fun τ558 eτ558 => ?_)
                    have i559 : Inv τ558 := eτ558 ▸ Inv.putR0 i551 (by omega) kt_0
                    have f560 : Fr MS_X12_takePersonE AS_X12_takePersonE σ τ558 := eτ558 ▸ Fr.put (f552) (Or.inr (by decide))
                    have v561 : CP (gV σ 23 0 152).toInt τ558 := v553.put eτ558 (Or.inr (fun q hq => by omega))
                    have v562 : TpM τ558 T N := v554.put eτ558 (Or.inl (by decide)) (by decide)
                    have v563 : CQ (gV σ 23 0 152).toInt.toNat τ558 := v555.put eτ558 (Or.inl (by decide)) (Or.inr (by omega))
                    refine m_aload_n C dX12_takePerson_176 rfl rfl ?_
                    refine g_22_0 C q4_116 dX12_takePerson_177 ?_
                    refine m_sipush (v := 152) C dX12_takePerson_180 (by decide) ?_
                    refine m_dup2 C dX12_takePerson_183 rfl rfl ?_
                    refine al_23 C kc_152 (by decide) kn_152 dX12_takePerson_184 ?_
                    refine m_eqs (w := (gV τ 23 0 152)) (show gV τ558 23 0 152 = (gV τ 23 0 152) from (gV_putn eτ558 (Or.inr (Or.inr (by omega)))).trans (show gV τ550 23 0 152 = (gV τ 23 0 152) from (gV_putn eτ550 (Or.inr (Or.inr (by omega)))).trans (show gV τ469 23 0 152 = (gV τ 23 0 152) from (f471.1 23 0 (152) (by decide) (by decide)).trans (show gV τ446 23 0 152 = (gV τ 23 0 152) from (gV_putn eτ446 (Or.inr (Or.inr (by omega)))).trans (show gV τ279 23 0 152 = (gV τ 23 0 152) from (f281.1 23 0 (152) (by decide) (by decide)).trans (show gV τ257 23 0 152 = (gV τ 23 0 152) from (gV_putn eτ257 (Or.inr (Or.inr (by omega)))).trans (show gV τ70 23 0 152 = (gV τ 23 0 152) from (f72.1 23 0 (152) (by decide) (by decide)).trans (show gV τ51 23 0 152 = (gV τ 23 0 152) from (gV_putn eτ51 (Or.inr (Or.inr (by omega)))).trans (show gV τ30 23 0 152 = (gV τ 23 0 152) from (f32.1 23 0 (152) (by decide) (by decide)).trans rfl))))))))) ?_
                    refine m_iconst (v := 1) C dX12_takePerson_185 (by decide) ?_
                    have q564 : (gV τ558 22 0 6).toInt = (gV τ 22 0 6).toInt := congrArg Int32.toInt (show (gV τ558 22 0 6) = (gV τ 22 0 6) from (show gV τ558 22 0 6 = (gV τ 22 0 6) from gV_put eτ558 (show gV τ550 22 0 6 = (gV τ 22 0 6) from gV_put eτ550 (show gV τ469 22 0 6 = (gV τ 22 0 6) from (f471.1 22 0 (6) (by decide) (by decide)).trans (show gV τ446 22 0 6 = (gV τ 22 0 6) from gV_put eτ446 (show gV τ279 22 0 6 = (gV τ 22 0 6) from (f281.1 22 0 (6) (by decide) (by decide)).trans (show gV τ257 22 0 6 = (gV τ 22 0 6) from gV_put eτ257 (show gV τ70 22 0 6 = (gV τ 22 0 6) from (f72.1 22 0 (6) (by decide) (by decide)).trans (show gV τ51 22 0 6 = (gV τ 22 0 6) from gV_put eτ51 (show gV τ30 22 0 6 = (gV τ 22 0 6) from (f32.1 22 0 (6) (by decide) (by decide)).trans rfl))))))))))
                    have q565 : (gV τ558 23 0 150).toInt = (gV τ 23 0 150).toInt := congrArg Int32.toInt (show (gV τ558 23 0 150) = (gV τ 23 0 150) from (show gV τ558 23 0 150 = (gV τ 23 0 150) from (gV_putn eτ558 (Or.inr (Or.inr (by omega)))).trans (show gV τ550 23 0 150 = (gV τ 23 0 150) from (gV_putn eτ550 (Or.inr (Or.inr (by omega)))).trans (show gV τ469 23 0 150 = (gV τ 23 0 150) from (f471.1 23 0 (150) (by decide) (by decide)).trans (show gV τ446 23 0 150 = (gV τ 23 0 150) from (gV_putn eτ446 (Or.inr (Or.inr (by omega)))).trans (show gV τ279 23 0 150 = (gV τ 23 0 150) from (f281.1 23 0 (150) (by decide) (by decide)).trans (show gV τ257 23 0 150 = (gV τ 23 0 150) from (gV_putn eτ257 (Or.inr (Or.inr (by omega)))).trans (show gV τ70 23 0 150 = (gV τ 23 0 150) from (f72.1 23 0 (150) (by decide) (by decide)).trans (show gV τ51 23 0 150 = (gV τ 23 0 150) from (gV_putn eτ51 (Or.inr (Or.inr (by omega)))).trans (show gV τ30 23 0 150 = (gV τ 23 0 150) from (f32.1 23 0 (150) (by decide) (by decide)).trans rfl))))))))))
                    have q566 : (gV τ558 23 0 152).toInt = (gV τ 23 0 152).toInt := congrArg Int32.toInt (show (gV τ558 23 0 152) = (gV τ 23 0 152) from (show gV τ558 23 0 152 = (gV τ 23 0 152) from (gV_putn eτ558 (Or.inr (Or.inr (by omega)))).trans (show gV τ550 23 0 152 = (gV τ 23 0 152) from (gV_putn eτ550 (Or.inr (Or.inr (by omega)))).trans (show gV τ469 23 0 152 = (gV τ 23 0 152) from (f471.1 23 0 (152) (by decide) (by decide)).trans (show gV τ446 23 0 152 = (gV τ 23 0 152) from (gV_putn eτ446 (Or.inr (Or.inr (by omega)))).trans (show gV τ279 23 0 152 = (gV τ 23 0 152) from (f281.1 23 0 (152) (by decide) (by decide)).trans (show gV τ257 23 0 152 = (gV τ 23 0 152) from (gV_putn eτ257 (Or.inr (Or.inr (by omega)))).trans (show gV τ70 23 0 152 = (gV τ 23 0 152) from (f72.1 23 0 (152) (by decide) (by decide)).trans (show gV τ51 23 0 152 = (gV τ 23 0 152) from (gV_putn eτ51 (Or.inr (Or.inr (by omega)))).trans (show gV τ30 23 0 152 = (gV τ 23 0 152) from (f32.1 23 0 (152) (by decide) (by decide)).trans rfl))))))))))
                    have q567 : (gV τ558 23 0 188).toInt = (gV τ 23 0 188).toInt := congrArg Int32.toInt (show (gV τ558 23 0 188) = (gV τ 23 0 188) from (show gV τ558 23 0 188 = (gV τ 23 0 188) from (gV_putn eτ558 (Or.inr (Or.inr (by omega)))).trans (show gV τ550 23 0 188 = (gV τ 23 0 188) from (gV_putn eτ550 (Or.inr (Or.inr (by omega)))).trans (show gV τ469 23 0 188 = (gV τ 23 0 188) from (f471.1 23 0 (188) (by decide) (by decide)).trans (show gV τ446 23 0 188 = (gV τ 23 0 188) from (gV_putn eτ446 (Or.inr (Or.inr (by omega)))).trans (show gV τ279 23 0 188 = (gV τ 23 0 188) from (f281.1 23 0 (188) (by decide) (by decide)).trans (show gV τ257 23 0 188 = (gV τ 23 0 188) from (gV_putn eτ257 (Or.inr (Or.inr (by omega)))).trans (show gV τ70 23 0 188 = (gV τ 23 0 188) from (f72.1 23 0 (188) (by decide) (by decide)).trans (show gV τ51 23 0 188 = (gV τ 23 0 188) from (gV_putn eτ51 (Or.inr (Or.inr (by omega)))).trans (show gV τ30 23 0 188 = (gV τ 23 0 188) from (f32.1 23 0 (188) (by decide) (by decide)).trans rfl))))))))))
                    have q568 : (gV τ558 22 0 11).toInt = (gV τ469 22 0 11).toInt := congrArg Int32.toInt (show (gV τ558 22 0 11) = (gV τ469 22 0 11) from (show gV τ558 22 0 11 = (gV τ469 22 0 11) from gV_put eτ558 (show gV τ550 22 0 11 = (gV τ469 22 0 11) from gV_put eτ550 rfl)))
                    have q569 : (gV τ558 22 0 12).toInt = (gV τ469 22 0 12).toInt := congrArg Int32.toInt (show (gV τ558 22 0 12) = (gV τ469 22 0 12) from (show gV τ558 22 0 12 = (gV τ469 22 0 12) from gV_put eτ558 (show gV τ550 22 0 12 = (gV τ469 22 0 12) from gV_put eτ550 rfl)))
                    have q570 : (gV τ558 22 0 16).toInt = (gV τ469 22 0 16).toInt := congrArg Int32.toInt (show (gV τ558 22 0 16) = (gV τ469 22 0 16) from (show gV τ558 22 0 16 = (gV τ469 22 0 16) from gV_put eτ558 (show gV τ550 22 0 16 = (gV τ469 22 0 16) from gV_put eτ550 rfl)))
                    have b571 : IV (gV τ 23 0 152) 0 6 := ⟨by have q1 := u3; omega, by have q1 := u3; omega⟩
                    refine m_iadd C dX12_takePerson_186 ?_
                    refine m_topi (fun x572 ex572 => ?_)
                    have tx572 : x572.toInt = (gV τ 23 0 152).toInt + 1 := by rw [ex572, ti_addv b571 kc_1 (by decide), kt_1]
                    have b573 : IV x572 1 7 := by rw [ex572]; exact iv_add b571 kc_1 (by decide)
                    refine as_23 C kc_152 (by decide) kn_152 dX12_takePerson_187 ?_
                    refine m_tops (fun τ574 eτ574 => ?_)
                    have i575 : Inv τ574 := eτ574 ▸ Inv.putR i559 (by decide) (iv_wk b573 (by decide))
                    have f576 : Fr MS_X12_takePersonE AS_X12_takePersonE σ τ574 := eτ574 ▸ Fr.put (f560) (Or.inr (by decide))
                    have v577 : CP (gV σ 23 0 152).toInt τ574 := v561.put eτ574 (Or.inr (fun q hq => by omega))
                    have v578 : TpM τ574 T N := v562.put eτ574 (Or.inl (by decide)) (by decide)
                    have v579 : CQ (gV σ 23 0 152).toInt.toNat τ574 := v563.put eτ574 (Or.inl (by decide)) (Or.inr (by omega))
                    refine m_aload_n C dX12_takePerson_188 rfl rfl ?_
                    have q580 : (gV τ574 22 0 6).toInt = (gV τ 22 0 6).toInt := congrArg Int32.toInt (show (gV τ574 22 0 6) = (gV τ 22 0 6) from (show gV τ574 22 0 6 = (gV τ 22 0 6) from gV_put eτ574 (show gV τ558 22 0 6 = (gV τ 22 0 6) from gV_put eτ558 (show gV τ550 22 0 6 = (gV τ 22 0 6) from gV_put eτ550 (show gV τ469 22 0 6 = (gV τ 22 0 6) from (f471.1 22 0 (6) (by decide) (by decide)).trans (show gV τ446 22 0 6 = (gV τ 22 0 6) from gV_put eτ446 (show gV τ279 22 0 6 = (gV τ 22 0 6) from (f281.1 22 0 (6) (by decide) (by decide)).trans (show gV τ257 22 0 6 = (gV τ 22 0 6) from gV_put eτ257 (show gV τ70 22 0 6 = (gV τ 22 0 6) from (f72.1 22 0 (6) (by decide) (by decide)).trans (show gV τ51 22 0 6 = (gV τ 22 0 6) from gV_put eτ51 (show gV τ30 22 0 6 = (gV τ 22 0 6) from (f32.1 22 0 (6) (by decide) (by decide)).trans rfl)))))))))))
                    have q581 : (gV τ574 23 0 150).toInt = (gV τ 23 0 150).toInt := congrArg Int32.toInt (show (gV τ574 23 0 150) = (gV τ 23 0 150) from (show gV τ574 23 0 150 = (gV τ 23 0 150) from gV_put eτ574 (show gV τ558 23 0 150 = (gV τ 23 0 150) from (gV_putn eτ558 (Or.inr (Or.inr (by omega)))).trans (show gV τ550 23 0 150 = (gV τ 23 0 150) from (gV_putn eτ550 (Or.inr (Or.inr (by omega)))).trans (show gV τ469 23 0 150 = (gV τ 23 0 150) from (f471.1 23 0 (150) (by decide) (by decide)).trans (show gV τ446 23 0 150 = (gV τ 23 0 150) from (gV_putn eτ446 (Or.inr (Or.inr (by omega)))).trans (show gV τ279 23 0 150 = (gV τ 23 0 150) from (f281.1 23 0 (150) (by decide) (by decide)).trans (show gV τ257 23 0 150 = (gV τ 23 0 150) from (gV_putn eτ257 (Or.inr (Or.inr (by omega)))).trans (show gV τ70 23 0 150 = (gV τ 23 0 150) from (f72.1 23 0 (150) (by decide) (by decide)).trans (show gV τ51 23 0 150 = (gV τ 23 0 150) from (gV_putn eτ51 (Or.inr (Or.inr (by omega)))).trans (show gV τ30 23 0 150 = (gV τ 23 0 150) from (f32.1 23 0 (150) (by decide) (by decide)).trans rfl)))))))))))
                    have q582 : (gV τ574 23 0 188).toInt = (gV τ 23 0 188).toInt := congrArg Int32.toInt (show (gV τ574 23 0 188) = (gV τ 23 0 188) from (show gV τ574 23 0 188 = (gV τ 23 0 188) from gV_put eτ574 (show gV τ558 23 0 188 = (gV τ 23 0 188) from (gV_putn eτ558 (Or.inr (Or.inr (by omega)))).trans (show gV τ550 23 0 188 = (gV τ 23 0 188) from (gV_putn eτ550 (Or.inr (Or.inr (by omega)))).trans (show gV τ469 23 0 188 = (gV τ 23 0 188) from (f471.1 23 0 (188) (by decide) (by decide)).trans (show gV τ446 23 0 188 = (gV τ 23 0 188) from (gV_putn eτ446 (Or.inr (Or.inr (by omega)))).trans (show gV τ279 23 0 188 = (gV τ 23 0 188) from (f281.1 23 0 (188) (by decide) (by decide)).trans (show gV τ257 23 0 188 = (gV τ 23 0 188) from (gV_putn eτ257 (Or.inr (Or.inr (by omega)))).trans (show gV τ70 23 0 188 = (gV τ 23 0 188) from (f72.1 23 0 (188) (by decide) (by decide)).trans (show gV τ51 23 0 188 = (gV τ 23 0 188) from (gV_putn eτ51 (Or.inr (Or.inr (by omega)))).trans (show gV τ30 23 0 188 = (gV τ 23 0 188) from (f32.1 23 0 (188) (by decide) (by decide)).trans rfl)))))))))))
                    have q583 : (gV τ574 22 0 11).toInt = (gV τ469 22 0 11).toInt := congrArg Int32.toInt (show (gV τ574 22 0 11) = (gV τ469 22 0 11) from (show gV τ574 22 0 11 = (gV τ469 22 0 11) from gV_put eτ574 (show gV τ558 22 0 11 = (gV τ469 22 0 11) from gV_put eτ558 (show gV τ550 22 0 11 = (gV τ469 22 0 11) from gV_put eτ550 rfl))))
                    have q584 : (gV τ574 22 0 12).toInt = (gV τ469 22 0 12).toInt := congrArg Int32.toInt (show (gV τ574 22 0 12) = (gV τ469 22 0 12) from (show gV τ574 22 0 12 = (gV τ469 22 0 12) from gV_put eτ574 (show gV τ558 22 0 12 = (gV τ469 22 0 12) from gV_put eτ558 (show gV τ550 22 0 12 = (gV τ469 22 0 12) from gV_put eτ550 rfl))))
                    have q585 : (gV τ574 22 0 16).toInt = (gV τ469 22 0 16).toInt := congrArg Int32.toInt (show (gV τ574 22 0 16) = (gV τ469 22 0 16) from (show gV τ574 22 0 16 = (gV τ469 22 0 16) from gV_put eτ574 (show gV τ558 22 0 16 = (gV τ469 22 0 16) from gV_put eτ558 (show gV τ550 22 0 16 = (gV τ469 22 0 16) from gV_put eτ550 rfl))))
                    have q586 : (gV τ574 23 0 152).toInt = x572.toInt := congrArg Int32.toInt (show (gV τ574 23 0 152) = x572 from (show gV τ574 23 0 152 = x572 from gV_put eτ574 (gV_self _ _ _ _ _)))
                    refine m_callV (n := 0) (ci := 11) (st := []) C (c_X12_takeSignE l G τ574 T N (tE T N (tE T N (tE T N (tE T N (tE T N i)))))  i575 v578 (fun h => absurd h (by omega)) (by omega)) (by decide) (by decide) rfl rfl rfl q5_15 q5_12 q5_14 q0_32 q1_7 (by decide +kernel) rfl (by decide) (by decide) rfl (Nat.le_of_ble_eq_true rfl) dX12_takePerson_189 ?_
                    rintro _ τ587 ⟨rfl, i588, f589, h593⟩
                    have g592 : Fr MS_X12_takePersonE AS_X12_takePersonE σ τ587 := Fr.call (f576) f589 (by decide)
                    have v594 : CP (gV σ 23 0 152).toInt τ587 := v577.call (fun k => f589.1 23 0 k (by simp) (by decide))
                    have v595 : TpM τ587 T N := v578.fr f589 (by decide) (by decide) (by simp) (by decide)
                    have u596 : IV (gV τ587 22 0 11) 0 400 := i588.1 22 0 11
                    have q597 : (gV τ587 22 0 6).toInt = (gV τ 22 0 6).toInt := congrArg Int32.toInt (show (gV τ587 22 0 6) = (gV τ 22 0 6) from (show gV τ587 22 0 6 = (gV τ 22 0 6) from (f589.1 22 0 (6) (by decide) (by decide)).trans (show gV τ574 22 0 6 = (gV τ 22 0 6) from gV_put eτ574 (show gV τ558 22 0 6 = (gV τ 22 0 6) from gV_put eτ558 (show gV τ550 22 0 6 = (gV τ 22 0 6) from gV_put eτ550 (show gV τ469 22 0 6 = (gV τ 22 0 6) from (f471.1 22 0 (6) (by decide) (by decide)).trans (show gV τ446 22 0 6 = (gV τ 22 0 6) from gV_put eτ446 (show gV τ279 22 0 6 = (gV τ 22 0 6) from (f281.1 22 0 (6) (by decide) (by decide)).trans (show gV τ257 22 0 6 = (gV τ 22 0 6) from gV_put eτ257 (show gV τ70 22 0 6 = (gV τ 22 0 6) from (f72.1 22 0 (6) (by decide) (by decide)).trans (show gV τ51 22 0 6 = (gV τ 22 0 6) from gV_put eτ51 (show gV τ30 22 0 6 = (gV τ 22 0 6) from (f32.1 22 0 (6) (by decide) (by decide)).trans rfl))))))))))))
                    have q598 : (gV τ587 23 0 150).toInt = (gV τ 23 0 150).toInt := congrArg Int32.toInt (show (gV τ587 23 0 150) = (gV τ 23 0 150) from (show gV τ587 23 0 150 = (gV τ 23 0 150) from (f589.1 23 0 (150) (by decide) (by decide)).trans (show gV τ574 23 0 150 = (gV τ 23 0 150) from gV_put eτ574 (show gV τ558 23 0 150 = (gV τ 23 0 150) from (gV_putn eτ558 (Or.inr (Or.inr (by omega)))).trans (show gV τ550 23 0 150 = (gV τ 23 0 150) from (gV_putn eτ550 (Or.inr (Or.inr (by omega)))).trans (show gV τ469 23 0 150 = (gV τ 23 0 150) from (f471.1 23 0 (150) (by decide) (by decide)).trans (show gV τ446 23 0 150 = (gV τ 23 0 150) from (gV_putn eτ446 (Or.inr (Or.inr (by omega)))).trans (show gV τ279 23 0 150 = (gV τ 23 0 150) from (f281.1 23 0 (150) (by decide) (by decide)).trans (show gV τ257 23 0 150 = (gV τ 23 0 150) from (gV_putn eτ257 (Or.inr (Or.inr (by omega)))).trans (show gV τ70 23 0 150 = (gV τ 23 0 150) from (f72.1 23 0 (150) (by decide) (by decide)).trans (show gV τ51 23 0 150 = (gV τ 23 0 150) from (gV_putn eτ51 (Or.inr (Or.inr (by omega)))).trans (show gV τ30 23 0 150 = (gV τ 23 0 150) from (f32.1 23 0 (150) (by decide) (by decide)).trans rfl))))))))))))
                    have q599 : (gV τ587 23 0 188).toInt = (gV τ 23 0 188).toInt := congrArg Int32.toInt (show (gV τ587 23 0 188) = (gV τ 23 0 188) from (show gV τ587 23 0 188 = (gV τ 23 0 188) from (f589.1 23 0 (188) (by decide) (by decide)).trans (show gV τ574 23 0 188 = (gV τ 23 0 188) from gV_put eτ574 (show gV τ558 23 0 188 = (gV τ 23 0 188) from (gV_putn eτ558 (Or.inr (Or.inr (by omega)))).trans (show gV τ550 23 0 188 = (gV τ 23 0 188) from (gV_putn eτ550 (Or.inr (Or.inr (by omega)))).trans (show gV τ469 23 0 188 = (gV τ 23 0 188) from (f471.1 23 0 (188) (by decide) (by decide)).trans (show gV τ446 23 0 188 = (gV τ 23 0 188) from (gV_putn eτ446 (Or.inr (Or.inr (by omega)))).trans (show gV τ279 23 0 188 = (gV τ 23 0 188) from (f281.1 23 0 (188) (by decide) (by decide)).trans (show gV τ257 23 0 188 = (gV τ 23 0 188) from (gV_putn eτ257 (Or.inr (Or.inr (by omega)))).trans (show gV τ70 23 0 188 = (gV τ 23 0 188) from (f72.1 23 0 (188) (by decide) (by decide)).trans (show gV τ51 23 0 188 = (gV τ 23 0 188) from (gV_putn eτ51 (Or.inr (Or.inr (by omega)))).trans (show gV τ30 23 0 188 = (gV τ 23 0 188) from (f32.1 23 0 (188) (by decide) (by decide)).trans rfl))))))))))))
                    have q600 : (gV τ587 23 0 152).toInt = x572.toInt := congrArg Int32.toInt (show (gV τ587 23 0 152) = x572 from (show gV τ587 23 0 152 = x572 from (f589.1 23 0 (152) (by decide) (by decide)).trans (show gV τ574 23 0 152 = x572 from gV_put eτ574 (gV_self _ _ _ _ _))))
                    rcases h593 with ⟨h593_0, h593_1, h593_2, h593_3⟩ | ⟨h593_0, h593_1, h593_2, h593_3, h593_4⟩ | ⟨h593_0, h593_1, h593_2, h593_3, h593_4, h593_5⟩
                    · skip
                      have v601 : CQ (gV σ 23 0 152).toInt.toNat τ587 := v579.call (fun q => by omega) (fun k => f589.1 23 0 k (by simp) (by decide))
                      show MW p l e _ s m args below meth c _ 4 G 0 0 192 [some (.ref (G.1 22 0)), some (.int y1), some (.int z0), some (.int x472)] [] τ587
                      exact m_vret C hr hlk (by decide) (by decide) dX12_takePerson_192 ⟨rfl, i588, g592, (by have qd := per_7 T N st cc i (by omega) (by omega) (by omega) (by omega) (by omega) (by omega) (by omega) (by omega); exact Or.inl ⟨by omega, by omega, by omega, by omega, by omega, by omega⟩)⟩
                    · skip
                      exfalso; omega
                    · skip
                      exfalso; omega
                  · exfalso
                    have q : _ := c548
                    simp only [ti_nle, ti_nlt, ti_le, ti_lt, ti_eq, ti_ne, Classical.not_not, kt_99] at q
                    have q1 := b543; have q2 := kc_99; omega
                · skip
                  have v603 : CQ (gV σ 23 0 152).toInt.toNat τ469 := v460.call (fun q => by omega) (fun k => f471.1 23 0 k (by simp) (by decide))
                  have v604 : CuM T N (tE T N (tE T N (tE T N (tE T N (tE T N i))))) τ469 := ⟨h475_4, h475_5⟩
                  clear h475_4
                  have b605 : IV (gV τ469 22 0 16) 0 0 := ⟨by omega, by omega⟩
                  show MW p l e _ s m args below meth c _ 4 G 0 0 139 [some (.ref (G.1 22 0)), some (.int y1), some (.int z0), none] [.int x472] τ469
                  refine m_goto (tgt := 143) C dX12_takePerson_139 (by decide) ?_
                  refine m_istore_n (L1 := [some (.ref (G.1 22 0)), some (.int y1), some (.int z0), some (.int x472)]) C dX12_takePerson_143 rfl (by decide) rfl rfl ?_
                  refine m_aload_n C dX12_takePerson_144 rfl rfl ?_
                  refine g_22_0 C q4_116 dX12_takePerson_145 ?_
                  refine m_sipush (v := 174) C dX12_takePerson_148 (by decide) ?_
                  refine m_iload_n C dX12_takePerson_151 rfl rfl ?_
                  refine m_iadd C dX12_takePerson_152 ?_
                  refine m_topi (fun x606 ex606 => ?_)
                  have tx606 : x606.toInt = 174 + y1.toInt := by rw [ex606, ti_addv kc_174 b_y1 (by decide), kt_174]
                  have b607 : IV x606 174 180 := by rw [ex606]; exact iv_add kc_174 b_y1 (by decide)
                  refine m_iload_n C dX12_takePerson_153 rfl rfl ?_
                  refine m_bipush (v := 99) C dX12_takePerson_154 (by decide) ?_
                  refine m_icmp_ne (tgt := 163) C dX12_takePerson_156 (by decide) (fun c608 => ?_) (fun c608 => ?_)
                  · have f609 : x472.toInt ≠ 99 := by
                      have q : _ := c608
                      simp only [ti_nle, ti_nlt, ti_le, ti_lt, ti_eq, ti_ne, Classical.not_not, kt_99] at q
                      omega
                    refine m_iload_n C dX12_takePerson_163 rfl rfl ?_
                    refine as_23 C b607 (by decide) rfl dX12_takePerson_164 ?_
                    refine m_tops (fun τ610 eτ610 => ?_)
                    have i611 : Inv τ610 := eτ610 ▸ Inv.putRo i470 (by omega)
                    have f612 : Fr MS_X12_takePersonE AS_X12_takePersonE σ τ610 := eτ610 ▸ Fr.put (g474) (Or.inr (by decide))
                    have v613 : CP (gV σ 23 0 152).toInt τ610 := v476.put eτ610 (Or.inr (fun q hq => by omega))
                    have v614 : TpM τ610 T N := v477.put eτ610 (Or.inl (by decide)) (by decide)
                    have v615 : CQ (gV σ 23 0 152).toInt.toNat τ610 := v603.put eτ610 (Or.inl (by decide)) (Or.inr (by omega))
                    have v616 : LW T N (tE T N (tE T N (tE T N (tE T N (tE T N i))))) τ610.2.2.1 := by rw [eτ610]; exact h475_6
                    have v617 : CuM T N (tE T N (tE T N (tE T N (tE T N (tE T N i))))) τ610 := CuM.put v604 eτ610 (Or.inl (by decide))
                    refine m_aload_n C dX12_takePerson_165 rfl rfl ?_
                    refine g_22_0 C q4_116 dX12_takePerson_166 ?_
                    refine m_sipush (v := 181) C dX12_takePerson_169 (by decide) ?_
                    refine m_iload_n C dX12_takePerson_172 rfl rfl ?_
                    refine m_iadd C dX12_takePerson_173 ?_
                    refine m_topi (fun x618 ex618 => ?_)
                    have tx618 : x618.toInt = 181 + y1.toInt := by rw [ex618, ti_addv kc_181 b_y1 (by decide), kt_181]
                    have b619 : IV x618 181 187 := by rw [ex618]; exact iv_add kc_181 b_y1 (by decide)
                    refine m_iconst (v := 0) C dX12_takePerson_174 (by decide) ?_
                    refine as_23 C b619 (by decide) rfl dX12_takePerson_175 ?_
                    refine m_tops (fun τ620 eτ620 => ?_)
                    have i621 : Inv τ620 := eτ620 ▸ Inv.putR0 i611 (by omega) kt_0
                    have f622 : Fr MS_X12_takePersonE AS_X12_takePersonE σ τ620 := eτ620 ▸ Fr.put (f612) (Or.inr (by decide))
                    have v623 : CP (gV σ 23 0 152).toInt τ620 := v613.put eτ620 (Or.inr (fun q hq => by omega))
                    have v624 : TpM τ620 T N := v614.put eτ620 (Or.inl (by decide)) (by decide)
                    have v625 : CQ (gV σ 23 0 152).toInt.toNat τ620 := v615.put eτ620 (Or.inl (by decide)) (Or.inr (by omega))
                    have v626 : LW T N (tE T N (tE T N (tE T N (tE T N (tE T N i))))) τ620.2.2.1 := by rw [eτ620]; exact v616
                    have v627 : CuM T N (tE T N (tE T N (tE T N (tE T N (tE T N i))))) τ620 := CuM.put v617 eτ620 (Or.inl (by decide))
                    refine m_aload_n C dX12_takePerson_176 rfl rfl ?_
                    refine g_22_0 C q4_116 dX12_takePerson_177 ?_
                    refine m_sipush (v := 152) C dX12_takePerson_180 (by decide) ?_
                    refine m_dup2 C dX12_takePerson_183 rfl rfl ?_
                    refine al_23 C kc_152 (by decide) kn_152 dX12_takePerson_184 ?_
                    refine m_eqs (w := (gV τ 23 0 152)) (show gV τ620 23 0 152 = (gV τ 23 0 152) from (gV_putn eτ620 (Or.inr (Or.inr (by omega)))).trans (show gV τ610 23 0 152 = (gV τ 23 0 152) from (gV_putn eτ610 (Or.inr (Or.inr (by omega)))).trans (show gV τ469 23 0 152 = (gV τ 23 0 152) from (f471.1 23 0 (152) (by decide) (by decide)).trans (show gV τ446 23 0 152 = (gV τ 23 0 152) from (gV_putn eτ446 (Or.inr (Or.inr (by omega)))).trans (show gV τ279 23 0 152 = (gV τ 23 0 152) from (f281.1 23 0 (152) (by decide) (by decide)).trans (show gV τ257 23 0 152 = (gV τ 23 0 152) from (gV_putn eτ257 (Or.inr (Or.inr (by omega)))).trans (show gV τ70 23 0 152 = (gV τ 23 0 152) from (f72.1 23 0 (152) (by decide) (by decide)).trans (show gV τ51 23 0 152 = (gV τ 23 0 152) from (gV_putn eτ51 (Or.inr (Or.inr (by omega)))).trans (show gV τ30 23 0 152 = (gV τ 23 0 152) from (f32.1 23 0 (152) (by decide) (by decide)).trans rfl))))))))) ?_
                    refine m_iconst (v := 1) C dX12_takePerson_185 (by decide) ?_
                    have q628 : (gV τ620 22 0 6).toInt = (gV τ 22 0 6).toInt := congrArg Int32.toInt (show (gV τ620 22 0 6) = (gV τ 22 0 6) from (show gV τ620 22 0 6 = (gV τ 22 0 6) from gV_put eτ620 (show gV τ610 22 0 6 = (gV τ 22 0 6) from gV_put eτ610 (show gV τ469 22 0 6 = (gV τ 22 0 6) from (f471.1 22 0 (6) (by decide) (by decide)).trans (show gV τ446 22 0 6 = (gV τ 22 0 6) from gV_put eτ446 (show gV τ279 22 0 6 = (gV τ 22 0 6) from (f281.1 22 0 (6) (by decide) (by decide)).trans (show gV τ257 22 0 6 = (gV τ 22 0 6) from gV_put eτ257 (show gV τ70 22 0 6 = (gV τ 22 0 6) from (f72.1 22 0 (6) (by decide) (by decide)).trans (show gV τ51 22 0 6 = (gV τ 22 0 6) from gV_put eτ51 (show gV τ30 22 0 6 = (gV τ 22 0 6) from (f32.1 22 0 (6) (by decide) (by decide)).trans rfl))))))))))
                    have q629 : (gV τ620 23 0 150).toInt = (gV τ 23 0 150).toInt := congrArg Int32.toInt (show (gV τ620 23 0 150) = (gV τ 23 0 150) from (show gV τ620 23 0 150 = (gV τ 23 0 150) from (gV_putn eτ620 (Or.inr (Or.inr (by omega)))).trans (show gV τ610 23 0 150 = (gV τ 23 0 150) from (gV_putn eτ610 (Or.inr (Or.inr (by omega)))).trans (show gV τ469 23 0 150 = (gV τ 23 0 150) from (f471.1 23 0 (150) (by decide) (by decide)).trans (show gV τ446 23 0 150 = (gV τ 23 0 150) from (gV_putn eτ446 (Or.inr (Or.inr (by omega)))).trans (show gV τ279 23 0 150 = (gV τ 23 0 150) from (f281.1 23 0 (150) (by decide) (by decide)).trans (show gV τ257 23 0 150 = (gV τ 23 0 150) from (gV_putn eτ257 (Or.inr (Or.inr (by omega)))).trans (show gV τ70 23 0 150 = (gV τ 23 0 150) from (f72.1 23 0 (150) (by decide) (by decide)).trans (show gV τ51 23 0 150 = (gV τ 23 0 150) from (gV_putn eτ51 (Or.inr (Or.inr (by omega)))).trans (show gV τ30 23 0 150 = (gV τ 23 0 150) from (f32.1 23 0 (150) (by decide) (by decide)).trans rfl))))))))))
                    have q630 : (gV τ620 23 0 152).toInt = (gV τ 23 0 152).toInt := congrArg Int32.toInt (show (gV τ620 23 0 152) = (gV τ 23 0 152) from (show gV τ620 23 0 152 = (gV τ 23 0 152) from (gV_putn eτ620 (Or.inr (Or.inr (by omega)))).trans (show gV τ610 23 0 152 = (gV τ 23 0 152) from (gV_putn eτ610 (Or.inr (Or.inr (by omega)))).trans (show gV τ469 23 0 152 = (gV τ 23 0 152) from (f471.1 23 0 (152) (by decide) (by decide)).trans (show gV τ446 23 0 152 = (gV τ 23 0 152) from (gV_putn eτ446 (Or.inr (Or.inr (by omega)))).trans (show gV τ279 23 0 152 = (gV τ 23 0 152) from (f281.1 23 0 (152) (by decide) (by decide)).trans (show gV τ257 23 0 152 = (gV τ 23 0 152) from (gV_putn eτ257 (Or.inr (Or.inr (by omega)))).trans (show gV τ70 23 0 152 = (gV τ 23 0 152) from (f72.1 23 0 (152) (by decide) (by decide)).trans (show gV τ51 23 0 152 = (gV τ 23 0 152) from (gV_putn eτ51 (Or.inr (Or.inr (by omega)))).trans (show gV τ30 23 0 152 = (gV τ 23 0 152) from (f32.1 23 0 (152) (by decide) (by decide)).trans rfl))))))))))
                    have q631 : (gV τ620 23 0 188).toInt = (gV τ 23 0 188).toInt := congrArg Int32.toInt (show (gV τ620 23 0 188) = (gV τ 23 0 188) from (show gV τ620 23 0 188 = (gV τ 23 0 188) from (gV_putn eτ620 (Or.inr (Or.inr (by omega)))).trans (show gV τ610 23 0 188 = (gV τ 23 0 188) from (gV_putn eτ610 (Or.inr (Or.inr (by omega)))).trans (show gV τ469 23 0 188 = (gV τ 23 0 188) from (f471.1 23 0 (188) (by decide) (by decide)).trans (show gV τ446 23 0 188 = (gV τ 23 0 188) from (gV_putn eτ446 (Or.inr (Or.inr (by omega)))).trans (show gV τ279 23 0 188 = (gV τ 23 0 188) from (f281.1 23 0 (188) (by decide) (by decide)).trans (show gV τ257 23 0 188 = (gV τ 23 0 188) from (gV_putn eτ257 (Or.inr (Or.inr (by omega)))).trans (show gV τ70 23 0 188 = (gV τ 23 0 188) from (f72.1 23 0 (188) (by decide) (by decide)).trans (show gV τ51 23 0 188 = (gV τ 23 0 188) from (gV_putn eτ51 (Or.inr (Or.inr (by omega)))).trans (show gV τ30 23 0 188 = (gV τ 23 0 188) from (f32.1 23 0 (188) (by decide) (by decide)).trans rfl))))))))))
                    have q632 : (gV τ620 22 0 11).toInt = (gV τ469 22 0 11).toInt := congrArg Int32.toInt (show (gV τ620 22 0 11) = (gV τ469 22 0 11) from (show gV τ620 22 0 11 = (gV τ469 22 0 11) from gV_put eτ620 (show gV τ610 22 0 11 = (gV τ469 22 0 11) from gV_put eτ610 rfl)))
                    have q633 : (gV τ620 22 0 12).toInt = (gV τ469 22 0 12).toInt := congrArg Int32.toInt (show (gV τ620 22 0 12) = (gV τ469 22 0 12) from (show gV τ620 22 0 12 = (gV τ469 22 0 12) from gV_put eτ620 (show gV τ610 22 0 12 = (gV τ469 22 0 12) from gV_put eτ610 rfl)))
                    have q634 : (gV τ620 22 0 16).toInt = (gV τ469 22 0 16).toInt := congrArg Int32.toInt (show (gV τ620 22 0 16) = (gV τ469 22 0 16) from (show gV τ620 22 0 16 = (gV τ469 22 0 16) from gV_put eτ620 (show gV τ610 22 0 16 = (gV τ469 22 0 16) from gV_put eτ610 rfl)))
                    have b635 : IV (gV τ 23 0 152) 0 6 := ⟨by have q1 := u3; omega, by have q1 := u3; omega⟩
                    refine m_iadd C dX12_takePerson_186 ?_
                    refine m_topi (fun x636 ex636 => ?_)
                    have tx636 : x636.toInt = (gV τ 23 0 152).toInt + 1 := by rw [ex636, ti_addv b635 kc_1 (by decide), kt_1]
                    have b637 : IV x636 1 7 := by rw [ex636]; exact iv_add b635 kc_1 (by decide)
                    refine as_23 C kc_152 (by decide) kn_152 dX12_takePerson_187 ?_
                    refine m_tops (fun τ638 eτ638 => ?_)
                    have i639 : Inv τ638 := eτ638 ▸ Inv.putR i621 (by decide) (iv_wk b637 (by decide))
                    have f640 : Fr MS_X12_takePersonE AS_X12_takePersonE σ τ638 := eτ638 ▸ Fr.put (f622) (Or.inr (by decide))
                    have v641 : CP (gV σ 23 0 152).toInt τ638 := v623.put eτ638 (Or.inr (fun q hq => by omega))
                    have v642 : TpM τ638 T N := v624.put eτ638 (Or.inl (by decide)) (by decide)
                    have v643 : CQ (gV σ 23 0 152).toInt.toNat τ638 := v625.put eτ638 (Or.inl (by decide)) (Or.inr (by omega))
                    have v644 : LW T N (tE T N (tE T N (tE T N (tE T N (tE T N i))))) τ638.2.2.1 := by rw [eτ638]; exact v626
                    have v645 : CuM T N (tE T N (tE T N (tE T N (tE T N (tE T N i))))) τ638 := CuM.put v627 eτ638 (Or.inl (by decide))
                    refine m_aload_n C dX12_takePerson_188 rfl rfl ?_
                    have q646 : (gV τ638 22 0 6).toInt = (gV τ 22 0 6).toInt := congrArg Int32.toInt (show (gV τ638 22 0 6) = (gV τ 22 0 6) from (show gV τ638 22 0 6 = (gV τ 22 0 6) from gV_put eτ638 (show gV τ620 22 0 6 = (gV τ 22 0 6) from gV_put eτ620 (show gV τ610 22 0 6 = (gV τ 22 0 6) from gV_put eτ610 (show gV τ469 22 0 6 = (gV τ 22 0 6) from (f471.1 22 0 (6) (by decide) (by decide)).trans (show gV τ446 22 0 6 = (gV τ 22 0 6) from gV_put eτ446 (show gV τ279 22 0 6 = (gV τ 22 0 6) from (f281.1 22 0 (6) (by decide) (by decide)).trans (show gV τ257 22 0 6 = (gV τ 22 0 6) from gV_put eτ257 (show gV τ70 22 0 6 = (gV τ 22 0 6) from (f72.1 22 0 (6) (by decide) (by decide)).trans (show gV τ51 22 0 6 = (gV τ 22 0 6) from gV_put eτ51 (show gV τ30 22 0 6 = (gV τ 22 0 6) from (f32.1 22 0 (6) (by decide) (by decide)).trans rfl)))))))))))
                    have q647 : (gV τ638 23 0 150).toInt = (gV τ 23 0 150).toInt := congrArg Int32.toInt (show (gV τ638 23 0 150) = (gV τ 23 0 150) from (show gV τ638 23 0 150 = (gV τ 23 0 150) from gV_put eτ638 (show gV τ620 23 0 150 = (gV τ 23 0 150) from (gV_putn eτ620 (Or.inr (Or.inr (by omega)))).trans (show gV τ610 23 0 150 = (gV τ 23 0 150) from (gV_putn eτ610 (Or.inr (Or.inr (by omega)))).trans (show gV τ469 23 0 150 = (gV τ 23 0 150) from (f471.1 23 0 (150) (by decide) (by decide)).trans (show gV τ446 23 0 150 = (gV τ 23 0 150) from (gV_putn eτ446 (Or.inr (Or.inr (by omega)))).trans (show gV τ279 23 0 150 = (gV τ 23 0 150) from (f281.1 23 0 (150) (by decide) (by decide)).trans (show gV τ257 23 0 150 = (gV τ 23 0 150) from (gV_putn eτ257 (Or.inr (Or.inr (by omega)))).trans (show gV τ70 23 0 150 = (gV τ 23 0 150) from (f72.1 23 0 (150) (by decide) (by decide)).trans (show gV τ51 23 0 150 = (gV τ 23 0 150) from (gV_putn eτ51 (Or.inr (Or.inr (by omega)))).trans (show gV τ30 23 0 150 = (gV τ 23 0 150) from (f32.1 23 0 (150) (by decide) (by decide)).trans rfl)))))))))))
                    have q648 : (gV τ638 23 0 188).toInt = (gV τ 23 0 188).toInt := congrArg Int32.toInt (show (gV τ638 23 0 188) = (gV τ 23 0 188) from (show gV τ638 23 0 188 = (gV τ 23 0 188) from gV_put eτ638 (show gV τ620 23 0 188 = (gV τ 23 0 188) from (gV_putn eτ620 (Or.inr (Or.inr (by omega)))).trans (show gV τ610 23 0 188 = (gV τ 23 0 188) from (gV_putn eτ610 (Or.inr (Or.inr (by omega)))).trans (show gV τ469 23 0 188 = (gV τ 23 0 188) from (f471.1 23 0 (188) (by decide) (by decide)).trans (show gV τ446 23 0 188 = (gV τ 23 0 188) from (gV_putn eτ446 (Or.inr (Or.inr (by omega)))).trans (show gV τ279 23 0 188 = (gV τ 23 0 188) from (f281.1 23 0 (188) (by decide) (by decide)).trans (show gV τ257 23 0 188 = (gV τ 23 0 188) from (gV_putn eτ257 (Or.inr (Or.inr (by omega)))).trans (show gV τ70 23 0 188 = (gV τ 23 0 188) from (f72.1 23 0 (188) (by decide) (by decide)).trans (show gV τ51 23 0 188 = (gV τ 23 0 188) from (gV_putn eτ51 (Or.inr (Or.inr (by omega)))).trans (show gV τ30 23 0 188 = (gV τ 23 0 188) from (f32.1 23 0 (188) (by decide) (by decide)).trans rfl)))))))))))
                    have q649 : (gV τ638 22 0 11).toInt = (gV τ469 22 0 11).toInt := congrArg Int32.toInt (show (gV τ638 22 0 11) = (gV τ469 22 0 11) from (show gV τ638 22 0 11 = (gV τ469 22 0 11) from gV_put eτ638 (show gV τ620 22 0 11 = (gV τ469 22 0 11) from gV_put eτ620 (show gV τ610 22 0 11 = (gV τ469 22 0 11) from gV_put eτ610 rfl))))
                    have q650 : (gV τ638 22 0 12).toInt = (gV τ469 22 0 12).toInt := congrArg Int32.toInt (show (gV τ638 22 0 12) = (gV τ469 22 0 12) from (show gV τ638 22 0 12 = (gV τ469 22 0 12) from gV_put eτ638 (show gV τ620 22 0 12 = (gV τ469 22 0 12) from gV_put eτ620 (show gV τ610 22 0 12 = (gV τ469 22 0 12) from gV_put eτ610 rfl))))
                    have q651 : (gV τ638 22 0 16).toInt = (gV τ469 22 0 16).toInt := congrArg Int32.toInt (show (gV τ638 22 0 16) = (gV τ469 22 0 16) from (show gV τ638 22 0 16 = (gV τ469 22 0 16) from gV_put eτ638 (show gV τ620 22 0 16 = (gV τ469 22 0 16) from gV_put eτ620 (show gV τ610 22 0 16 = (gV τ469 22 0 16) from gV_put eτ610 rfl))))
                    have q652 : (gV τ638 23 0 152).toInt = x636.toInt := congrArg Int32.toInt (show (gV τ638 23 0 152) = x636 from (show gV τ638 23 0 152 = x636 from gV_put eτ638 (gV_self _ _ _ _ _)))
                    refine m_callV (n := 0) (ci := 11) (st := []) C (c_X12_takeSignE l G τ638 T N (tE T N (tE T N (tE T N (tE T N (tE T N i)))))  i639 v642 (fun _ => v645.1) (by omega)) (by decide) (by decide) rfl rfl rfl q5_15 q5_12 q5_14 q0_32 q1_7 (by decide +kernel) rfl (by decide) (by decide) rfl (Nat.le_of_ble_eq_true rfl) dX12_takePerson_189 ?_
                    rintro _ τ653 ⟨rfl, i654, f655, h659⟩
                    have g658 : Fr MS_X12_takePersonE AS_X12_takePersonE σ τ653 := Fr.call (f640) f655 (by decide)
                    have v660 : CP (gV σ 23 0 152).toInt τ653 := v641.call (fun k => f655.1 23 0 k (by simp) (by decide))
                    have v661 : TpM τ653 T N := v642.fr f655 (by decide) (by decide) (by simp) (by decide)
                    have u662 : IV (gV τ653 22 0 11) 0 400 := i654.1 22 0 11
                    have q663 : (gV τ653 22 0 6).toInt = (gV τ 22 0 6).toInt := congrArg Int32.toInt (show (gV τ653 22 0 6) = (gV τ 22 0 6) from (show gV τ653 22 0 6 = (gV τ 22 0 6) from (f655.1 22 0 (6) (by decide) (by decide)).trans (show gV τ638 22 0 6 = (gV τ 22 0 6) from gV_put eτ638 (show gV τ620 22 0 6 = (gV τ 22 0 6) from gV_put eτ620 (show gV τ610 22 0 6 = (gV τ 22 0 6) from gV_put eτ610 (show gV τ469 22 0 6 = (gV τ 22 0 6) from (f471.1 22 0 (6) (by decide) (by decide)).trans (show gV τ446 22 0 6 = (gV τ 22 0 6) from gV_put eτ446 (show gV τ279 22 0 6 = (gV τ 22 0 6) from (f281.1 22 0 (6) (by decide) (by decide)).trans (show gV τ257 22 0 6 = (gV τ 22 0 6) from gV_put eτ257 (show gV τ70 22 0 6 = (gV τ 22 0 6) from (f72.1 22 0 (6) (by decide) (by decide)).trans (show gV τ51 22 0 6 = (gV τ 22 0 6) from gV_put eτ51 (show gV τ30 22 0 6 = (gV τ 22 0 6) from (f32.1 22 0 (6) (by decide) (by decide)).trans rfl))))))))))))
                    have q664 : (gV τ653 23 0 150).toInt = (gV τ 23 0 150).toInt := congrArg Int32.toInt (show (gV τ653 23 0 150) = (gV τ 23 0 150) from (show gV τ653 23 0 150 = (gV τ 23 0 150) from (f655.1 23 0 (150) (by decide) (by decide)).trans (show gV τ638 23 0 150 = (gV τ 23 0 150) from gV_put eτ638 (show gV τ620 23 0 150 = (gV τ 23 0 150) from (gV_putn eτ620 (Or.inr (Or.inr (by omega)))).trans (show gV τ610 23 0 150 = (gV τ 23 0 150) from (gV_putn eτ610 (Or.inr (Or.inr (by omega)))).trans (show gV τ469 23 0 150 = (gV τ 23 0 150) from (f471.1 23 0 (150) (by decide) (by decide)).trans (show gV τ446 23 0 150 = (gV τ 23 0 150) from (gV_putn eτ446 (Or.inr (Or.inr (by omega)))).trans (show gV τ279 23 0 150 = (gV τ 23 0 150) from (f281.1 23 0 (150) (by decide) (by decide)).trans (show gV τ257 23 0 150 = (gV τ 23 0 150) from (gV_putn eτ257 (Or.inr (Or.inr (by omega)))).trans (show gV τ70 23 0 150 = (gV τ 23 0 150) from (f72.1 23 0 (150) (by decide) (by decide)).trans (show gV τ51 23 0 150 = (gV τ 23 0 150) from (gV_putn eτ51 (Or.inr (Or.inr (by omega)))).trans (show gV τ30 23 0 150 = (gV τ 23 0 150) from (f32.1 23 0 (150) (by decide) (by decide)).trans rfl))))))))))))
                    have q665 : (gV τ653 23 0 188).toInt = (gV τ 23 0 188).toInt := congrArg Int32.toInt (show (gV τ653 23 0 188) = (gV τ 23 0 188) from (show gV τ653 23 0 188 = (gV τ 23 0 188) from (f655.1 23 0 (188) (by decide) (by decide)).trans (show gV τ638 23 0 188 = (gV τ 23 0 188) from gV_put eτ638 (show gV τ620 23 0 188 = (gV τ 23 0 188) from (gV_putn eτ620 (Or.inr (Or.inr (by omega)))).trans (show gV τ610 23 0 188 = (gV τ 23 0 188) from (gV_putn eτ610 (Or.inr (Or.inr (by omega)))).trans (show gV τ469 23 0 188 = (gV τ 23 0 188) from (f471.1 23 0 (188) (by decide) (by decide)).trans (show gV τ446 23 0 188 = (gV τ 23 0 188) from (gV_putn eτ446 (Or.inr (Or.inr (by omega)))).trans (show gV τ279 23 0 188 = (gV τ 23 0 188) from (f281.1 23 0 (188) (by decide) (by decide)).trans (show gV τ257 23 0 188 = (gV τ 23 0 188) from (gV_putn eτ257 (Or.inr (Or.inr (by omega)))).trans (show gV τ70 23 0 188 = (gV τ 23 0 188) from (f72.1 23 0 (188) (by decide) (by decide)).trans (show gV τ51 23 0 188 = (gV τ 23 0 188) from (gV_putn eτ51 (Or.inr (Or.inr (by omega)))).trans (show gV τ30 23 0 188 = (gV τ 23 0 188) from (f32.1 23 0 (188) (by decide) (by decide)).trans rfl))))))))))))
                    have q666 : (gV τ653 23 0 152).toInt = x636.toInt := congrArg Int32.toInt (show (gV τ653 23 0 152) = x636 from (show gV τ653 23 0 152 = x636 from (f655.1 23 0 (152) (by decide) (by decide)).trans (show gV τ638 23 0 152 = x636 from gV_put eτ638 (gV_self _ _ _ _ _))))
                    rcases h659 with ⟨h659_0, h659_1, h659_2, h659_3⟩ | ⟨h659_0, h659_1, h659_2, h659_3, h659_4⟩ | ⟨h659_0, h659_1, h659_2, h659_3, h659_4, h659_5⟩
                    · skip
                      exfalso; omega
                    · skip
                      have v667 : CQ (gV σ 23 0 152).toInt.toNat τ653 := v643.call (fun q => by omega) (fun k => f655.1 23 0 k (by simp) (by decide))
                      have b668 : IV (gV τ653 22 0 16) 1 1 := ⟨by omega, by omega⟩
                      show MW p l e _ s m args below meth c _ 4 G 0 0 192 [some (.ref (G.1 22 0)), some (.int y1), some (.int z0), some (.int x472)] [] τ653
                      exact m_vret C hr hlk (by decide) (by decide) dX12_takePerson_192 ⟨rfl, i654, g658, (by have qd := per_8 T N st cc i (by omega) (by omega) (by omega) (by omega) (by omega) (by omega) (by omega) (by omega) (by omega); exact Or.inl ⟨by omega, by omega, by omega, by omega, by omega, by omega⟩)⟩
                    · skip
                      have v669 : CQ (gV σ 23 0 152).toInt.toNat τ653 := v643.call (fun q => by omega) (fun k => f655.1 23 0 k (by simp) (by decide))
                      have b670 : IV (gV τ653 22 0 16) 0 0 := ⟨by omega, by omega⟩
                      have v671 : CuM T N (tE T N (tE T N (tE T N (tE T N (tE T N (tE T N i)))))) τ653 := ⟨h659_3, h659_4⟩
                      clear h659_3
                      show MW p l e _ s m args below meth c _ 4 G 0 0 192 [some (.ref (G.1 22 0)), some (.int y1), some (.int z0), some (.int x472)] [] τ653
                      exact m_vret C hr hlk (by decide) (by decide) dX12_takePerson_192 ⟨rfl, i654, g658, (by have qd := per_ok T N st cc i (by omega) (by omega) (by omega) (by omega) (by omega) (by omega) (by omega) (by omega) (by omega); exact Or.inr ⟨by omega, by omega, by omega, v671.1, by omega, by omega, Pb.mk (by omega) v660 (v669 (by omega)) (by omega), h659_5⟩)⟩
                  · have f672 : x472.toInt = 99 := by
                      have q : _ := c608
                      simp only [ti_nle, ti_nlt, ti_le, ti_lt, ti_eq, ti_ne, Classical.not_not, kt_99] at q
                      omega
                    have b673 : IV x472 99 99 := ⟨by have q1 := b473; have q2 := kc_99; omega, by have q1 := b473; have q2 := kc_99; omega⟩
                    refine m_iconst (v := (-1)) C dX12_takePerson_159 (by decide) ?_
                    refine m_goto (tgt := 164) C dX12_takePerson_160 (by decide) ?_
                    refine as_23 C b607 (by decide) rfl dX12_takePerson_164 ?_
                    refine m_tops (fun τ674 eτ674 => ?_)
                    have i675 : Inv τ674 := eτ674 ▸ Inv.putRo i470 (by omega)
                    have f676 : Fr MS_X12_takePersonE AS_X12_takePersonE σ τ674 := eτ674 ▸ Fr.put (g474) (Or.inr (by decide))
                    have v677 : CP (gV σ 23 0 152).toInt τ674 := v476.put eτ674 (Or.inr (fun q hq => by omega))
                    have v678 : TpM τ674 T N := v477.put eτ674 (Or.inl (by decide)) (by decide)
                    have v679 : CQ (gV σ 23 0 152).toInt.toNat τ674 := v603.put eτ674 (Or.inl (by decide)) (Or.inr (by omega))
                    have v680 : LW T N (tE T N (tE T N (tE T N (tE T N (tE T N i))))) τ674.2.2.1 := by rw [eτ674]; exact h475_6
                    have v681 : CuM T N (tE T N (tE T N (tE T N (tE T N (tE T N i))))) τ674 := CuM.put v604 eτ674 (Or.inl (by decide))
                    refine m_aload_n C dX12_takePerson_165 rfl rfl ?_
                    refine g_22_0 C q4_116 dX12_takePerson_166 ?_
                    refine m_sipush (v := 181) C dX12_takePerson_169 (by decide) ?_
                    refine m_iload_n C dX12_takePerson_172 rfl rfl ?_
                    refine m_iadd C dX12_takePerson_173 ?_
                    refine m_topi (fun x682 ex682 => ?_)
                    have tx682 : x682.toInt = 181 + y1.toInt := by rw [ex682, ti_addv kc_181 b_y1 (by decide), kt_181]
                    have b683 : IV x682 181 187 := by rw [ex682]; exact iv_add kc_181 b_y1 (by decide)
                    refine m_iconst (v := 0) C dX12_takePerson_174 (by decide) ?_
                    refine as_23 C b683 (by decide) rfl dX12_takePerson_175 ?_
                    refine m_tops (fun τ684 eτ684 => ?_)
                    have i685 : Inv τ684 := eτ684 ▸ Inv.putR0 i675 (by omega) kt_0
                    have f686 : Fr MS_X12_takePersonE AS_X12_takePersonE σ τ684 := eτ684 ▸ Fr.put (f676) (Or.inr (by decide))
                    have v687 : CP (gV σ 23 0 152).toInt τ684 := v677.put eτ684 (Or.inr (fun q hq => by omega))
                    have v688 : TpM τ684 T N := v678.put eτ684 (Or.inl (by decide)) (by decide)
                    have v689 : CQ (gV σ 23 0 152).toInt.toNat τ684 := v679.put eτ684 (Or.inl (by decide)) (Or.inr (by omega))
                    have v690 : LW T N (tE T N (tE T N (tE T N (tE T N (tE T N i))))) τ684.2.2.1 := by rw [eτ684]; exact v680
                    have v691 : CuM T N (tE T N (tE T N (tE T N (tE T N (tE T N i))))) τ684 := CuM.put v681 eτ684 (Or.inl (by decide))
                    refine m_aload_n C dX12_takePerson_176 rfl rfl ?_
                    refine g_22_0 C q4_116 dX12_takePerson_177 ?_
                    refine m_sipush (v := 152) C dX12_takePerson_180 (by decide) ?_
                    refine m_dup2 C dX12_takePerson_183 rfl rfl ?_
                    refine al_23 C kc_152 (by decide) kn_152 dX12_takePerson_184 ?_
                    refine m_eqs (w := (gV τ 23 0 152)) (show gV τ684 23 0 152 = (gV τ 23 0 152) from (gV_putn eτ684 (Or.inr (Or.inr (by omega)))).trans (show gV τ674 23 0 152 = (gV τ 23 0 152) from (gV_putn eτ674 (Or.inr (Or.inr (by omega)))).trans (show gV τ469 23 0 152 = (gV τ 23 0 152) from (f471.1 23 0 (152) (by decide) (by decide)).trans (show gV τ446 23 0 152 = (gV τ 23 0 152) from (gV_putn eτ446 (Or.inr (Or.inr (by omega)))).trans (show gV τ279 23 0 152 = (gV τ 23 0 152) from (f281.1 23 0 (152) (by decide) (by decide)).trans (show gV τ257 23 0 152 = (gV τ 23 0 152) from (gV_putn eτ257 (Or.inr (Or.inr (by omega)))).trans (show gV τ70 23 0 152 = (gV τ 23 0 152) from (f72.1 23 0 (152) (by decide) (by decide)).trans (show gV τ51 23 0 152 = (gV τ 23 0 152) from (gV_putn eτ51 (Or.inr (Or.inr (by omega)))).trans (show gV τ30 23 0 152 = (gV τ 23 0 152) from (f32.1 23 0 (152) (by decide) (by decide)).trans rfl))))))))) ?_
                    refine m_iconst (v := 1) C dX12_takePerson_185 (by decide) ?_
                    have q692 : (gV τ684 22 0 6).toInt = (gV τ 22 0 6).toInt := congrArg Int32.toInt (show (gV τ684 22 0 6) = (gV τ 22 0 6) from (show gV τ684 22 0 6 = (gV τ 22 0 6) from gV_put eτ684 (show gV τ674 22 0 6 = (gV τ 22 0 6) from gV_put eτ674 (show gV τ469 22 0 6 = (gV τ 22 0 6) from (f471.1 22 0 (6) (by decide) (by decide)).trans (show gV τ446 22 0 6 = (gV τ 22 0 6) from gV_put eτ446 (show gV τ279 22 0 6 = (gV τ 22 0 6) from (f281.1 22 0 (6) (by decide) (by decide)).trans (show gV τ257 22 0 6 = (gV τ 22 0 6) from gV_put eτ257 (show gV τ70 22 0 6 = (gV τ 22 0 6) from (f72.1 22 0 (6) (by decide) (by decide)).trans (show gV τ51 22 0 6 = (gV τ 22 0 6) from gV_put eτ51 (show gV τ30 22 0 6 = (gV τ 22 0 6) from (f32.1 22 0 (6) (by decide) (by decide)).trans rfl))))))))))
                    have q693 : (gV τ684 23 0 150).toInt = (gV τ 23 0 150).toInt := congrArg Int32.toInt (show (gV τ684 23 0 150) = (gV τ 23 0 150) from (show gV τ684 23 0 150 = (gV τ 23 0 150) from (gV_putn eτ684 (Or.inr (Or.inr (by omega)))).trans (show gV τ674 23 0 150 = (gV τ 23 0 150) from (gV_putn eτ674 (Or.inr (Or.inr (by omega)))).trans (show gV τ469 23 0 150 = (gV τ 23 0 150) from (f471.1 23 0 (150) (by decide) (by decide)).trans (show gV τ446 23 0 150 = (gV τ 23 0 150) from (gV_putn eτ446 (Or.inr (Or.inr (by omega)))).trans (show gV τ279 23 0 150 = (gV τ 23 0 150) from (f281.1 23 0 (150) (by decide) (by decide)).trans (show gV τ257 23 0 150 = (gV τ 23 0 150) from (gV_putn eτ257 (Or.inr (Or.inr (by omega)))).trans (show gV τ70 23 0 150 = (gV τ 23 0 150) from (f72.1 23 0 (150) (by decide) (by decide)).trans (show gV τ51 23 0 150 = (gV τ 23 0 150) from (gV_putn eτ51 (Or.inr (Or.inr (by omega)))).trans (show gV τ30 23 0 150 = (gV τ 23 0 150) from (f32.1 23 0 (150) (by decide) (by decide)).trans rfl))))))))))
                    have q694 : (gV τ684 23 0 152).toInt = (gV τ 23 0 152).toInt := congrArg Int32.toInt (show (gV τ684 23 0 152) = (gV τ 23 0 152) from (show gV τ684 23 0 152 = (gV τ 23 0 152) from (gV_putn eτ684 (Or.inr (Or.inr (by omega)))).trans (show gV τ674 23 0 152 = (gV τ 23 0 152) from (gV_putn eτ674 (Or.inr (Or.inr (by omega)))).trans (show gV τ469 23 0 152 = (gV τ 23 0 152) from (f471.1 23 0 (152) (by decide) (by decide)).trans (show gV τ446 23 0 152 = (gV τ 23 0 152) from (gV_putn eτ446 (Or.inr (Or.inr (by omega)))).trans (show gV τ279 23 0 152 = (gV τ 23 0 152) from (f281.1 23 0 (152) (by decide) (by decide)).trans (show gV τ257 23 0 152 = (gV τ 23 0 152) from (gV_putn eτ257 (Or.inr (Or.inr (by omega)))).trans (show gV τ70 23 0 152 = (gV τ 23 0 152) from (f72.1 23 0 (152) (by decide) (by decide)).trans (show gV τ51 23 0 152 = (gV τ 23 0 152) from (gV_putn eτ51 (Or.inr (Or.inr (by omega)))).trans (show gV τ30 23 0 152 = (gV τ 23 0 152) from (f32.1 23 0 (152) (by decide) (by decide)).trans rfl))))))))))
                    have q695 : (gV τ684 23 0 188).toInt = (gV τ 23 0 188).toInt := congrArg Int32.toInt (show (gV τ684 23 0 188) = (gV τ 23 0 188) from (show gV τ684 23 0 188 = (gV τ 23 0 188) from (gV_putn eτ684 (Or.inr (Or.inr (by omega)))).trans (show gV τ674 23 0 188 = (gV τ 23 0 188) from (gV_putn eτ674 (Or.inr (Or.inr (by omega)))).trans (show gV τ469 23 0 188 = (gV τ 23 0 188) from (f471.1 23 0 (188) (by decide) (by decide)).trans (show gV τ446 23 0 188 = (gV τ 23 0 188) from (gV_putn eτ446 (Or.inr (Or.inr (by omega)))).trans (show gV τ279 23 0 188 = (gV τ 23 0 188) from (f281.1 23 0 (188) (by decide) (by decide)).trans (show gV τ257 23 0 188 = (gV τ 23 0 188) from (gV_putn eτ257 (Or.inr (Or.inr (by omega)))).trans (show gV τ70 23 0 188 = (gV τ 23 0 188) from (f72.1 23 0 (188) (by decide) (by decide)).trans (show gV τ51 23 0 188 = (gV τ 23 0 188) from (gV_putn eτ51 (Or.inr (Or.inr (by omega)))).trans (show gV τ30 23 0 188 = (gV τ 23 0 188) from (f32.1 23 0 (188) (by decide) (by decide)).trans rfl))))))))))
                    have q696 : (gV τ684 22 0 11).toInt = (gV τ469 22 0 11).toInt := congrArg Int32.toInt (show (gV τ684 22 0 11) = (gV τ469 22 0 11) from (show gV τ684 22 0 11 = (gV τ469 22 0 11) from gV_put eτ684 (show gV τ674 22 0 11 = (gV τ469 22 0 11) from gV_put eτ674 rfl)))
                    have q697 : (gV τ684 22 0 12).toInt = (gV τ469 22 0 12).toInt := congrArg Int32.toInt (show (gV τ684 22 0 12) = (gV τ469 22 0 12) from (show gV τ684 22 0 12 = (gV τ469 22 0 12) from gV_put eτ684 (show gV τ674 22 0 12 = (gV τ469 22 0 12) from gV_put eτ674 rfl)))
                    have q698 : (gV τ684 22 0 16).toInt = (gV τ469 22 0 16).toInt := congrArg Int32.toInt (show (gV τ684 22 0 16) = (gV τ469 22 0 16) from (show gV τ684 22 0 16 = (gV τ469 22 0 16) from gV_put eτ684 (show gV τ674 22 0 16 = (gV τ469 22 0 16) from gV_put eτ674 rfl)))
                    have b699 : IV (gV τ 23 0 152) 0 6 := ⟨by have q1 := u3; omega, by have q1 := u3; omega⟩
                    refine m_iadd C dX12_takePerson_186 ?_
                    refine m_topi (fun x700 ex700 => ?_)
                    have tx700 : x700.toInt = (gV τ 23 0 152).toInt + 1 := by rw [ex700, ti_addv b699 kc_1 (by decide), kt_1]
                    have b701 : IV x700 1 7 := by rw [ex700]; exact iv_add b699 kc_1 (by decide)
                    refine as_23 C kc_152 (by decide) kn_152 dX12_takePerson_187 ?_
                    refine m_tops (fun τ702 eτ702 => ?_)
                    have i703 : Inv τ702 := eτ702 ▸ Inv.putR i685 (by decide) (iv_wk b701 (by decide))
                    have f704 : Fr MS_X12_takePersonE AS_X12_takePersonE σ τ702 := eτ702 ▸ Fr.put (f686) (Or.inr (by decide))
                    have v705 : CP (gV σ 23 0 152).toInt τ702 := v687.put eτ702 (Or.inr (fun q hq => by omega))
                    have v706 : TpM τ702 T N := v688.put eτ702 (Or.inl (by decide)) (by decide)
                    have v707 : CQ (gV σ 23 0 152).toInt.toNat τ702 := v689.put eτ702 (Or.inl (by decide)) (Or.inr (by omega))
                    have v708 : LW T N (tE T N (tE T N (tE T N (tE T N (tE T N i))))) τ702.2.2.1 := by rw [eτ702]; exact v690
                    have v709 : CuM T N (tE T N (tE T N (tE T N (tE T N (tE T N i))))) τ702 := CuM.put v691 eτ702 (Or.inl (by decide))
                    refine m_aload_n C dX12_takePerson_188 rfl rfl ?_
                    have q710 : (gV τ702 22 0 6).toInt = (gV τ 22 0 6).toInt := congrArg Int32.toInt (show (gV τ702 22 0 6) = (gV τ 22 0 6) from (show gV τ702 22 0 6 = (gV τ 22 0 6) from gV_put eτ702 (show gV τ684 22 0 6 = (gV τ 22 0 6) from gV_put eτ684 (show gV τ674 22 0 6 = (gV τ 22 0 6) from gV_put eτ674 (show gV τ469 22 0 6 = (gV τ 22 0 6) from (f471.1 22 0 (6) (by decide) (by decide)).trans (show gV τ446 22 0 6 = (gV τ 22 0 6) from gV_put eτ446 (show gV τ279 22 0 6 = (gV τ 22 0 6) from (f281.1 22 0 (6) (by decide) (by decide)).trans (show gV τ257 22 0 6 = (gV τ 22 0 6) from gV_put eτ257 (show gV τ70 22 0 6 = (gV τ 22 0 6) from (f72.1 22 0 (6) (by decide) (by decide)).trans (show gV τ51 22 0 6 = (gV τ 22 0 6) from gV_put eτ51 (show gV τ30 22 0 6 = (gV τ 22 0 6) from (f32.1 22 0 (6) (by decide) (by decide)).trans rfl)))))))))))
                    have q711 : (gV τ702 23 0 150).toInt = (gV τ 23 0 150).toInt := congrArg Int32.toInt (show (gV τ702 23 0 150) = (gV τ 23 0 150) from (show gV τ702 23 0 150 = (gV τ 23 0 150) from gV_put eτ702 (show gV τ684 23 0 150 = (gV τ 23 0 150) from (gV_putn eτ684 (Or.inr (Or.inr (by omega)))).trans (show gV τ674 23 0 150 = (gV τ 23 0 150) from (gV_putn eτ674 (Or.inr (Or.inr (by omega)))).trans (show gV τ469 23 0 150 = (gV τ 23 0 150) from (f471.1 23 0 (150) (by decide) (by decide)).trans (show gV τ446 23 0 150 = (gV τ 23 0 150) from (gV_putn eτ446 (Or.inr (Or.inr (by omega)))).trans (show gV τ279 23 0 150 = (gV τ 23 0 150) from (f281.1 23 0 (150) (by decide) (by decide)).trans (show gV τ257 23 0 150 = (gV τ 23 0 150) from (gV_putn eτ257 (Or.inr (Or.inr (by omega)))).trans (show gV τ70 23 0 150 = (gV τ 23 0 150) from (f72.1 23 0 (150) (by decide) (by decide)).trans (show gV τ51 23 0 150 = (gV τ 23 0 150) from (gV_putn eτ51 (Or.inr (Or.inr (by omega)))).trans (show gV τ30 23 0 150 = (gV τ 23 0 150) from (f32.1 23 0 (150) (by decide) (by decide)).trans rfl)))))))))))
                    have q712 : (gV τ702 23 0 188).toInt = (gV τ 23 0 188).toInt := congrArg Int32.toInt (show (gV τ702 23 0 188) = (gV τ 23 0 188) from (show gV τ702 23 0 188 = (gV τ 23 0 188) from gV_put eτ702 (show gV τ684 23 0 188 = (gV τ 23 0 188) from (gV_putn eτ684 (Or.inr (Or.inr (by omega)))).trans (show gV τ674 23 0 188 = (gV τ 23 0 188) from (gV_putn eτ674 (Or.inr (Or.inr (by omega)))).trans (show gV τ469 23 0 188 = (gV τ 23 0 188) from (f471.1 23 0 (188) (by decide) (by decide)).trans (show gV τ446 23 0 188 = (gV τ 23 0 188) from (gV_putn eτ446 (Or.inr (Or.inr (by omega)))).trans (show gV τ279 23 0 188 = (gV τ 23 0 188) from (f281.1 23 0 (188) (by decide) (by decide)).trans (show gV τ257 23 0 188 = (gV τ 23 0 188) from (gV_putn eτ257 (Or.inr (Or.inr (by omega)))).trans (show gV τ70 23 0 188 = (gV τ 23 0 188) from (f72.1 23 0 (188) (by decide) (by decide)).trans (show gV τ51 23 0 188 = (gV τ 23 0 188) from (gV_putn eτ51 (Or.inr (Or.inr (by omega)))).trans (show gV τ30 23 0 188 = (gV τ 23 0 188) from (f32.1 23 0 (188) (by decide) (by decide)).trans rfl)))))))))))
                    have q713 : (gV τ702 22 0 11).toInt = (gV τ469 22 0 11).toInt := congrArg Int32.toInt (show (gV τ702 22 0 11) = (gV τ469 22 0 11) from (show gV τ702 22 0 11 = (gV τ469 22 0 11) from gV_put eτ702 (show gV τ684 22 0 11 = (gV τ469 22 0 11) from gV_put eτ684 (show gV τ674 22 0 11 = (gV τ469 22 0 11) from gV_put eτ674 rfl))))
                    have q714 : (gV τ702 22 0 12).toInt = (gV τ469 22 0 12).toInt := congrArg Int32.toInt (show (gV τ702 22 0 12) = (gV τ469 22 0 12) from (show gV τ702 22 0 12 = (gV τ469 22 0 12) from gV_put eτ702 (show gV τ684 22 0 12 = (gV τ469 22 0 12) from gV_put eτ684 (show gV τ674 22 0 12 = (gV τ469 22 0 12) from gV_put eτ674 rfl))))
                    have q715 : (gV τ702 22 0 16).toInt = (gV τ469 22 0 16).toInt := congrArg Int32.toInt (show (gV τ702 22 0 16) = (gV τ469 22 0 16) from (show gV τ702 22 0 16 = (gV τ469 22 0 16) from gV_put eτ702 (show gV τ684 22 0 16 = (gV τ469 22 0 16) from gV_put eτ684 (show gV τ674 22 0 16 = (gV τ469 22 0 16) from gV_put eτ674 rfl))))
                    have q716 : (gV τ702 23 0 152).toInt = x700.toInt := congrArg Int32.toInt (show (gV τ702 23 0 152) = x700 from (show gV τ702 23 0 152 = x700 from gV_put eτ702 (gV_self _ _ _ _ _)))
                    refine m_callV (n := 0) (ci := 11) (st := []) C (c_X12_takeSignE l G τ702 T N (tE T N (tE T N (tE T N (tE T N (tE T N i)))))  i703 v706 (fun _ => v709.1) (by omega)) (by decide) (by decide) rfl rfl rfl q5_15 q5_12 q5_14 q0_32 q1_7 (by decide +kernel) rfl (by decide) (by decide) rfl (Nat.le_of_ble_eq_true rfl) dX12_takePerson_189 ?_
                    rintro _ τ717 ⟨rfl, i718, f719, h723⟩
                    have g722 : Fr MS_X12_takePersonE AS_X12_takePersonE σ τ717 := Fr.call (f704) f719 (by decide)
                    have v724 : CP (gV σ 23 0 152).toInt τ717 := v705.call (fun k => f719.1 23 0 k (by simp) (by decide))
                    have v725 : TpM τ717 T N := v706.fr f719 (by decide) (by decide) (by simp) (by decide)
                    have u726 : IV (gV τ717 22 0 11) 0 400 := i718.1 22 0 11
                    have q727 : (gV τ717 22 0 6).toInt = (gV τ 22 0 6).toInt := congrArg Int32.toInt (show (gV τ717 22 0 6) = (gV τ 22 0 6) from (show gV τ717 22 0 6 = (gV τ 22 0 6) from (f719.1 22 0 (6) (by decide) (by decide)).trans (show gV τ702 22 0 6 = (gV τ 22 0 6) from gV_put eτ702 (show gV τ684 22 0 6 = (gV τ 22 0 6) from gV_put eτ684 (show gV τ674 22 0 6 = (gV τ 22 0 6) from gV_put eτ674 (show gV τ469 22 0 6 = (gV τ 22 0 6) from (f471.1 22 0 (6) (by decide) (by decide)).trans (show gV τ446 22 0 6 = (gV τ 22 0 6) from gV_put eτ446 (show gV τ279 22 0 6 = (gV τ 22 0 6) from (f281.1 22 0 (6) (by decide) (by decide)).trans (show gV τ257 22 0 6 = (gV τ 22 0 6) from gV_put eτ257 (show gV τ70 22 0 6 = (gV τ 22 0 6) from (f72.1 22 0 (6) (by decide) (by decide)).trans (show gV τ51 22 0 6 = (gV τ 22 0 6) from gV_put eτ51 (show gV τ30 22 0 6 = (gV τ 22 0 6) from (f32.1 22 0 (6) (by decide) (by decide)).trans rfl))))))))))))
                    have q728 : (gV τ717 23 0 150).toInt = (gV τ 23 0 150).toInt := congrArg Int32.toInt (show (gV τ717 23 0 150) = (gV τ 23 0 150) from (show gV τ717 23 0 150 = (gV τ 23 0 150) from (f719.1 23 0 (150) (by decide) (by decide)).trans (show gV τ702 23 0 150 = (gV τ 23 0 150) from gV_put eτ702 (show gV τ684 23 0 150 = (gV τ 23 0 150) from (gV_putn eτ684 (Or.inr (Or.inr (by omega)))).trans (show gV τ674 23 0 150 = (gV τ 23 0 150) from (gV_putn eτ674 (Or.inr (Or.inr (by omega)))).trans (show gV τ469 23 0 150 = (gV τ 23 0 150) from (f471.1 23 0 (150) (by decide) (by decide)).trans (show gV τ446 23 0 150 = (gV τ 23 0 150) from (gV_putn eτ446 (Or.inr (Or.inr (by omega)))).trans (show gV τ279 23 0 150 = (gV τ 23 0 150) from (f281.1 23 0 (150) (by decide) (by decide)).trans (show gV τ257 23 0 150 = (gV τ 23 0 150) from (gV_putn eτ257 (Or.inr (Or.inr (by omega)))).trans (show gV τ70 23 0 150 = (gV τ 23 0 150) from (f72.1 23 0 (150) (by decide) (by decide)).trans (show gV τ51 23 0 150 = (gV τ 23 0 150) from (gV_putn eτ51 (Or.inr (Or.inr (by omega)))).trans (show gV τ30 23 0 150 = (gV τ 23 0 150) from (f32.1 23 0 (150) (by decide) (by decide)).trans rfl))))))))))))
                    have q729 : (gV τ717 23 0 188).toInt = (gV τ 23 0 188).toInt := congrArg Int32.toInt (show (gV τ717 23 0 188) = (gV τ 23 0 188) from (show gV τ717 23 0 188 = (gV τ 23 0 188) from (f719.1 23 0 (188) (by decide) (by decide)).trans (show gV τ702 23 0 188 = (gV τ 23 0 188) from gV_put eτ702 (show gV τ684 23 0 188 = (gV τ 23 0 188) from (gV_putn eτ684 (Or.inr (Or.inr (by omega)))).trans (show gV τ674 23 0 188 = (gV τ 23 0 188) from (gV_putn eτ674 (Or.inr (Or.inr (by omega)))).trans (show gV τ469 23 0 188 = (gV τ 23 0 188) from (f471.1 23 0 (188) (by decide) (by decide)).trans (show gV τ446 23 0 188 = (gV τ 23 0 188) from (gV_putn eτ446 (Or.inr (Or.inr (by omega)))).trans (show gV τ279 23 0 188 = (gV τ 23 0 188) from (f281.1 23 0 (188) (by decide) (by decide)).trans (show gV τ257 23 0 188 = (gV τ 23 0 188) from (gV_putn eτ257 (Or.inr (Or.inr (by omega)))).trans (show gV τ70 23 0 188 = (gV τ 23 0 188) from (f72.1 23 0 (188) (by decide) (by decide)).trans (show gV τ51 23 0 188 = (gV τ 23 0 188) from (gV_putn eτ51 (Or.inr (Or.inr (by omega)))).trans (show gV τ30 23 0 188 = (gV τ 23 0 188) from (f32.1 23 0 (188) (by decide) (by decide)).trans rfl))))))))))))
                    have q730 : (gV τ717 23 0 152).toInt = x700.toInt := congrArg Int32.toInt (show (gV τ717 23 0 152) = x700 from (show gV τ717 23 0 152 = x700 from (f719.1 23 0 (152) (by decide) (by decide)).trans (show gV τ702 23 0 152 = x700 from gV_put eτ702 (gV_self _ _ _ _ _))))
                    rcases h723 with ⟨h723_0, h723_1, h723_2, h723_3⟩ | ⟨h723_0, h723_1, h723_2, h723_3, h723_4⟩ | ⟨h723_0, h723_1, h723_2, h723_3, h723_4, h723_5⟩
                    · skip
                      exfalso; omega
                    · skip
                      have v731 : CQ (gV σ 23 0 152).toInt.toNat τ717 := v707.call (fun q => by omega) (fun k => f719.1 23 0 k (by simp) (by decide))
                      have b732 : IV (gV τ717 22 0 16) 1 1 := ⟨by omega, by omega⟩
                      show MW p l e _ s m args below meth c _ 4 G 0 0 192 [some (.ref (G.1 22 0)), some (.int y1), some (.int z0), some (.int x472)] [] τ717
                      exact m_vret C hr hlk (by decide) (by decide) dX12_takePerson_192 ⟨rfl, i718, g722, (by have qd := per_8 T N st cc i (by omega) (by omega) (by omega) (by omega) (by omega) (by omega) (by omega) (by omega) (by omega); exact Or.inl ⟨by omega, by omega, by omega, by omega, by omega, by omega⟩)⟩
                    · skip
                      have v733 : CQ (gV σ 23 0 152).toInt.toNat τ717 := v707.call (fun q => by omega) (fun k => f719.1 23 0 k (by simp) (by decide))
                      have b734 : IV (gV τ717 22 0 16) 0 0 := ⟨by omega, by omega⟩
                      have v735 : CuM T N (tE T N (tE T N (tE T N (tE T N (tE T N (tE T N i)))))) τ717 := ⟨h723_3, h723_4⟩
                      clear h723_3
                      show MW p l e _ s m args below meth c _ 4 G 0 0 192 [some (.ref (G.1 22 0)), some (.int y1), some (.int z0), some (.int x472)] [] τ717
                      exact m_vret C hr hlk (by decide) (by decide) dX12_takePerson_192 ⟨rfl, i718, g722, (by have qd := per_ok T N st cc i (by omega) (by omega) (by omega) (by omega) (by omega) (by omega) (by omega) (by omega) (by omega); exact Or.inr ⟨by omega, by omega, by omega, v735.1, by omega, by omega, Pb.mk (by omega) v724 (v733 (by omega)) (by omega), h723_5⟩)⟩
      · exfalso
        have q : _ := c28
        simp only [ti_nle, ti_nlt, ti_le, ti_lt, ti_eq, ti_ne, Classical.not_not, kt_0] at q
        have q1 := b26; have q2 := kc_0; omega
  have u737 : IV (gV σ 22 0 11) 0 400 := hI.1 22 0 11
  have u738 : IV (gV σ 22 0 6) 0 400 := hI.1 22 0 6
  have u739 : IV (gV σ 23 0 152) 0 7 := hI.1 23 0 152
  have u740 : IV (gV σ 23 0 188) 0 4 := hI.1 23 0 188
  have q741 : (gV σ 22 0 6).toInt = (N : Int) := hT.1
  have q742 := hT.2.1
  have b743 : IV (gV σ 22 0 16) 0 0 := ⟨by omega, by omega⟩
  refine m_aload_n C dX12_takePerson_0 rfl rfl ?_
  refine g_22_0 C q4_116 dX12_takePerson_1 ?_
  refine m_sipush (v := 152) C dX12_takePerson_4 (by decide) ?_
  refine al_23 C kc_152 (by decide) kn_152 dX12_takePerson_7 ?_
  refine m_eqs (w := (gV σ 23 0 152)) rfl ?_
  refine m_istore_n (L1 := [some (.ref (G.1 22 0)), some (.int (gV σ 23 0 152)), none, none]) C dX12_takePerson_8 rfl (by decide) rfl rfl ?_
  refine m_iload_n C dX12_takePerson_9 rfl rfl ?_
  refine m_bipush (v := 7) C dX12_takePerson_10 (by decide) ?_
  refine m_icmp_ne (tgt := 21) C dX12_takePerson_12 (by decide) (fun c744 => ?_) (fun c744 => ?_)
  · have f745 : (gV σ 23 0 152).toInt ≠ 7 := by
      have q : _ := c744
      simp only [ti_nle, ti_nlt, ti_le, ti_lt, ti_eq, ti_ne, Classical.not_not, kt_7] at q
      omega
    have b746 : IV (gV σ 23 0 152) 0 6 := ⟨by have q1 := u739; have q2 := kc_7; omega, by have q1 := u739; have q2 := kc_7; omega⟩
    refine m_aload_n C dX12_takePerson_21 rfl rfl ?_
    refine m_callV (n := 0) (ci := 11) (st := []) C (c_X12_nextE l G σ T N (tE T N i)  hI hT (by have qc := hcur.1; omega)) (by decide) (by decide) rfl rfl rfl q4_231 q4_228 q4_230 q0_28 q1_7 (by decide +kernel) rfl (by decide) (by decide) rfl (Nat.le_of_ble_eq_true rfl) dX12_takePerson_22 ?_
    rintro _ τ747 ⟨rfl, i748, f749, h753⟩
    have g752 : Fr MS_X12_takePersonE AS_X12_takePersonE σ τ747 := Fr.call (Fr.rf) f749 (by decide)
    have v754 : CP (gV σ 23 0 152).toInt τ747 := (hPb.cp hI).call (fun k => f749.1 23 0 k (by simp) (by decide))
    have v755 : TpM τ747 T N := hT.fr f749 (by decide) (by decide) (by simp) (by decide)
    obtain ⟨h756, h758, v757⟩ := h753
    have v759 : CuM T N (tE T N i) τ747 := ⟨h756, h758⟩
    clear h756
    have u760 : IV (gV τ747 22 0 11) 0 400 := i748.1 22 0 11
    have q761 : (gV τ747 22 0 16).toInt = (gV σ 22 0 16).toInt := congrArg Int32.toInt (show (gV τ747 22 0 16) = (gV σ 22 0 16) from (show gV τ747 22 0 16 = (gV σ 22 0 16) from (f749.1 22 0 (16) (by decide) (by decide)).trans rfl))
    have q762 : (gV τ747 22 0 6).toInt = (gV σ 22 0 6).toInt := congrArg Int32.toInt (show (gV τ747 22 0 6) = (gV σ 22 0 6) from (show gV τ747 22 0 6 = (gV σ 22 0 6) from (f749.1 22 0 (6) (by decide) (by decide)).trans rfl))
    have q763 : (gV τ747 23 0 150).toInt = (gV σ 23 0 150).toInt := congrArg Int32.toInt (show (gV τ747 23 0 150) = (gV σ 23 0 150) from (show gV τ747 23 0 150 = (gV σ 23 0 150) from (f749.1 23 0 (150) (by decide) (by decide)).trans rfl))
    have q764 : (gV τ747 23 0 152).toInt = (gV σ 23 0 152).toInt := congrArg Int32.toInt (show (gV τ747 23 0 152) = (gV σ 23 0 152) from (show gV τ747 23 0 152 = (gV σ 23 0 152) from (f749.1 23 0 (152) (by decide) (by decide)).trans rfl))
    have q765 : (gV τ747 23 0 188).toInt = (gV σ 23 0 188).toInt := congrArg Int32.toInt (show (gV τ747 23 0 188) = (gV σ 23 0 188) from (show gV τ747 23 0 188 = (gV σ 23 0 188) from (f749.1 23 0 (188) (by decide) (by decide)).trans rfl))
    show MW p l e _ s m args below meth c _ 4 G 0 0 25 [some (.ref (G.1 22 0)), some (.int (gV σ 23 0 152)), none, none] [] τ747
    refine m_aload_n C dX12_takePerson_25 rfl rfl ?_
    refine g_22_13 C q4_129 dX12_takePerson_26 ?_
    refine m_topi (fun x766 ex766 => ?_)
    have q767 : (x766.toInt = 0 ↔ tK T N (tE T N i) = 1) := by have qc := v759.1; rw [ex766]; omega
    have q768 : (x766.toInt = 4 ↔ tK T N (tE T N i) = 0) := by have qc := v759.1; rw [ex766]; omega
    refine m_if_ne (tgt := 42) C dX12_takePerson_29 (by decide) (fun c769 => ?_) (fun c769 => ?_)
    · have f770 : x766.toInt ≠ 0 := by
        have q : _ := c769
        simp only [ti_nle, ti_nlt, ti_le, ti_lt, ti_eq, ti_ne, Classical.not_not, kt_0] at q
        omega
      have q771 : tQ T N (tE T N i) = 0 := by have qd := tQ_def T N (tE T N i); omega
      refine m_iconst (v := (-1)) C dX12_takePerson_42 (by decide) ?_
      exact J43 τ747 (gV σ 23 0 152) (-1) i748 g752 b746 (iv_wk kc_m1 (by decide)) v754 v755 ⟨v759, by omega, by omega, by omega, by omega, by omega, by omega, by omega⟩ (by have q := kt_m1; omega)
    · have f772 : x766.toInt = 0 := by
        have q : _ := c769
        simp only [ti_nle, ti_nlt, ti_le, ti_lt, ti_eq, ti_ne, Classical.not_not, kt_0] at q
        omega
      have b773 : IV x766 0 0 := ⟨by have q1 := (iv_any x766); have q2 := kc_0; omega, by have q1 := (iv_any x766); have q2 := kc_0; omega⟩
      refine m_aload_n C dX12_takePerson_32 rfl rfl ?_
      refine g_22_14 C q4_130 dX12_takePerson_33 ?_
      refine m_topl (fun w774 ew774 => ?_)
      have q775 : tK T N (tE T N i) = 1 := by omega
      have q776 : (w774.toInt = 17494690093 ↔ tW T N (tE T N i) 2 = 1) := by rw [ew774]; exact LW.at2 v757 q775
      have q777 : (w774.toInt = 24416759 ↔ tW T N (tE T N i) 3 = 1) := by rw [ew774]; exact LW.at3 v757 q775
      have q778 : (w774.toInt = 2553 ↔ tW T N (tE T N i) 4 = 1) := by rw [ew774]; exact LW.at4 v757 q775
      have q779 : (w774.toInt = 441803 ↔ tW T N (tE T N i) 5 = 1) := by rw [ew774]; exact LW.at5 v757 q775
      have q780 : (w774.toInt = 77177328 ↔ tW T N (tE T N i) 6 = 1) := by rw [ew774]; exact LW.at6 v757 q775
      refine m_callS (n := 1) (st := []) C (c_X12_sortOfE l G τ747 (w774) i748 ) q5_23 q5_21 q5_22 q1_7 (by decide +kernel) rfl (by decide) (by decide) rfl (Nat.le_of_ble_eq_true rfl) dX12_takePerson_36 ?_
      rintro _ τ781 ⟨x784, rfl, i782, f783, b785, h787⟩
      have g786 : Fr MS_X12_takePersonE AS_X12_takePersonE σ τ781 := Fr.call (g752) f783 (by decide)
      have v788 : CP (gV σ 23 0 152).toInt τ781 := v754.call (fun k => f783.1 23 0 k (by simp) (by decide))
      have v789 : TpM τ781 T N := v755.fr f783 (by decide) (by decide) (by simp) (by decide)
      have v790 : CuM T N (tE T N i) τ781 := CuM.fr v759 f783 (by decide) (by decide)
      have q791 : (gV τ781 22 0 16).toInt = (gV σ 22 0 16).toInt := congrArg Int32.toInt (show (gV τ781 22 0 16) = (gV σ 22 0 16) from (show gV τ781 22 0 16 = (gV σ 22 0 16) from (f783.1 22 0 (16) (by decide) (by decide)).trans (show gV τ747 22 0 16 = (gV σ 22 0 16) from (f749.1 22 0 (16) (by decide) (by decide)).trans rfl)))
      have q792 : (gV τ781 22 0 6).toInt = (gV σ 22 0 6).toInt := congrArg Int32.toInt (show (gV τ781 22 0 6) = (gV σ 22 0 6) from (show gV τ781 22 0 6 = (gV σ 22 0 6) from (f783.1 22 0 (6) (by decide) (by decide)).trans (show gV τ747 22 0 6 = (gV σ 22 0 6) from (f749.1 22 0 (6) (by decide) (by decide)).trans rfl)))
      have q793 : (gV τ781 23 0 150).toInt = (gV σ 23 0 150).toInt := congrArg Int32.toInt (show (gV τ781 23 0 150) = (gV σ 23 0 150) from (show gV τ781 23 0 150 = (gV σ 23 0 150) from (f783.1 23 0 (150) (by decide) (by decide)).trans (show gV τ747 23 0 150 = (gV σ 23 0 150) from (f749.1 23 0 (150) (by decide) (by decide)).trans rfl)))
      have q794 : (gV τ781 23 0 152).toInt = (gV σ 23 0 152).toInt := congrArg Int32.toInt (show (gV τ781 23 0 152) = (gV σ 23 0 152) from (show gV τ781 23 0 152 = (gV σ 23 0 152) from (f783.1 23 0 (152) (by decide) (by decide)).trans (show gV τ747 23 0 152 = (gV σ 23 0 152) from (f749.1 23 0 (152) (by decide) (by decide)).trans rfl)))
      have q795 : (gV τ781 23 0 188).toInt = (gV σ 23 0 188).toInt := congrArg Int32.toInt (show (gV τ781 23 0 188) = (gV σ 23 0 188) from (show gV τ781 23 0 188 = (gV σ 23 0 188) from (f783.1 23 0 (188) (by decide) (by decide)).trans (show gV τ747 23 0 188 = (gV σ 23 0 188) from (f749.1 23 0 (188) (by decide) (by decide)).trans rfl)))
      have q796 : (gV τ781 22 0 11).toInt = (gV τ747 22 0 11).toInt := congrArg Int32.toInt (show (gV τ781 22 0 11) = (gV τ747 22 0 11) from (show gV τ781 22 0 11 = (gV τ747 22 0 11) from (f783.1 22 0 (11) (by decide) (by decide)).trans rfl))
      have q797 : (gV τ781 22 0 12).toInt = (gV τ747 22 0 12).toInt := congrArg Int32.toInt (show (gV τ781 22 0 12) = (gV τ747 22 0 12) from (show gV τ781 22 0 12 = (gV τ747 22 0 12) from (f783.1 22 0 (12) (by decide) (by decide)).trans rfl))
      rcases h787 with ⟨h787_0, h787_1⟩ | ⟨h787_0, h787_1⟩ | ⟨h787_0, h787_1⟩ | ⟨h787_0, h787_1⟩ | ⟨h787_0, h787_1⟩ | ⟨h787_0, h787_1, h787_2, h787_3, h787_4, h787_5⟩
      · skip
        have b798 : IV x784 1 1 := ⟨by omega, by omega⟩
        have a799 : tW T N (tE T N i) 2 = 1 := q776.mp h787_1
        have a800 : ¬ tW T N (tE T N i) 3 = 1 := fun h => by have h2 := q777.mpr h; rw [h787_1] at h2; exact absurd h2 (by decide)
        have a801 : ¬ tW T N (tE T N i) 4 = 1 := fun h => by have h2 := q778.mpr h; rw [h787_1] at h2; exact absurd h2 (by decide)
        have a802 : ¬ tW T N (tE T N i) 5 = 1 := fun h => by have h2 := q779.mpr h; rw [h787_1] at h2; exact absurd h2 (by decide)
        have a803 : ¬ tW T N (tE T N i) 6 = 1 := fun h => by have h2 := q780.mpr h; rw [h787_1] at h2; exact absurd h2 (by decide)
        have q804 : tQ T N (tE T N i) = 1 := tQ_a1 q775 a799
        clear a799 a800 a801 a802 a803 q776 q777 q778 q779 q780
        show MW p l e _ s m args below meth c _ 4 G 0 0 39 [some (.ref (G.1 22 0)), some (.int (gV σ 23 0 152)), none, none] [.int x784] τ781
        refine m_goto (tgt := 43) C dX12_takePerson_39 (by decide) ?_
        exact J43 τ781 (gV σ 23 0 152) x784 i782 g786 b746 (iv_wk b798 (by decide)) v788 v789 ⟨v790, by omega, by omega, by omega, by omega, by omega, by omega, by omega⟩ (by omega)
      · skip
        have b805 : IV x784 4 4 := ⟨by omega, by omega⟩
        have a806 : ¬ tW T N (tE T N i) 2 = 1 := fun h => by have h2 := q776.mpr h; rw [h787_1] at h2; exact absurd h2 (by decide)
        have a807 : ¬ tW T N (tE T N i) 3 = 1 := fun h => by have h2 := q777.mpr h; rw [h787_1] at h2; exact absurd h2 (by decide)
        have a808 : ¬ tW T N (tE T N i) 4 = 1 := fun h => by have h2 := q778.mpr h; rw [h787_1] at h2; exact absurd h2 (by decide)
        have a809 : tW T N (tE T N i) 5 = 1 := q779.mp h787_1
        have a810 : ¬ tW T N (tE T N i) 6 = 1 := fun h => by have h2 := q780.mpr h; rw [h787_1] at h2; exact absurd h2 (by decide)
        have q811 : tQ T N (tE T N i) = 4 := tQ_a4 q775 a806 a807 a808 a809
        clear a806 a807 a808 a809 a810 q776 q777 q778 q779 q780
        show MW p l e _ s m args below meth c _ 4 G 0 0 39 [some (.ref (G.1 22 0)), some (.int (gV σ 23 0 152)), none, none] [.int x784] τ781
        refine m_goto (tgt := 43) C dX12_takePerson_39 (by decide) ?_
        exact J43 τ781 (gV σ 23 0 152) x784 i782 g786 b746 (iv_wk b805 (by decide)) v788 v789 ⟨v790, by omega, by omega, by omega, by omega, by omega, by omega, by omega⟩ (by omega)
      · skip
        have b812 : IV x784 2 2 := ⟨by omega, by omega⟩
        have a813 : ¬ tW T N (tE T N i) 2 = 1 := fun h => by have h2 := q776.mpr h; rw [h787_1] at h2; exact absurd h2 (by decide)
        have a814 : tW T N (tE T N i) 3 = 1 := q777.mp h787_1
        have a815 : ¬ tW T N (tE T N i) 4 = 1 := fun h => by have h2 := q778.mpr h; rw [h787_1] at h2; exact absurd h2 (by decide)
        have a816 : ¬ tW T N (tE T N i) 5 = 1 := fun h => by have h2 := q779.mpr h; rw [h787_1] at h2; exact absurd h2 (by decide)
        have a817 : ¬ tW T N (tE T N i) 6 = 1 := fun h => by have h2 := q780.mpr h; rw [h787_1] at h2; exact absurd h2 (by decide)
        have q818 : tQ T N (tE T N i) = 2 := tQ_a2 q775 a813 a814
        clear a813 a814 a815 a816 a817 q776 q777 q778 q779 q780
        show MW p l e _ s m args below meth c _ 4 G 0 0 39 [some (.ref (G.1 22 0)), some (.int (gV σ 23 0 152)), none, none] [.int x784] τ781
        refine m_goto (tgt := 43) C dX12_takePerson_39 (by decide) ?_
        exact J43 τ781 (gV σ 23 0 152) x784 i782 g786 b746 (iv_wk b812 (by decide)) v788 v789 ⟨v790, by omega, by omega, by omega, by omega, by omega, by omega, by omega⟩ (by omega)
      · skip
        have b819 : IV x784 5 5 := ⟨by omega, by omega⟩
        have a820 : ¬ tW T N (tE T N i) 2 = 1 := fun h => by have h2 := q776.mpr h; rw [h787_1] at h2; exact absurd h2 (by decide)
        have a821 : ¬ tW T N (tE T N i) 3 = 1 := fun h => by have h2 := q777.mpr h; rw [h787_1] at h2; exact absurd h2 (by decide)
        have a822 : ¬ tW T N (tE T N i) 4 = 1 := fun h => by have h2 := q778.mpr h; rw [h787_1] at h2; exact absurd h2 (by decide)
        have a823 : ¬ tW T N (tE T N i) 5 = 1 := fun h => by have h2 := q779.mpr h; rw [h787_1] at h2; exact absurd h2 (by decide)
        have a824 : tW T N (tE T N i) 6 = 1 := q780.mp h787_1
        have q825 : tQ T N (tE T N i) = 5 := tQ_a5 q775 a820 a821 a822 a823 a824
        clear a820 a821 a822 a823 a824 q776 q777 q778 q779 q780
        show MW p l e _ s m args below meth c _ 4 G 0 0 39 [some (.ref (G.1 22 0)), some (.int (gV σ 23 0 152)), none, none] [.int x784] τ781
        refine m_goto (tgt := 43) C dX12_takePerson_39 (by decide) ?_
        exact J43 τ781 (gV σ 23 0 152) x784 i782 g786 b746 (iv_wk b819 (by decide)) v788 v789 ⟨v790, by omega, by omega, by omega, by omega, by omega, by omega, by omega⟩ (by omega)
      · skip
        have b826 : IV x784 3 3 := ⟨by omega, by omega⟩
        have a827 : ¬ tW T N (tE T N i) 2 = 1 := fun h => by have h2 := q776.mpr h; rw [h787_1] at h2; exact absurd h2 (by decide)
        have a828 : ¬ tW T N (tE T N i) 3 = 1 := fun h => by have h2 := q777.mpr h; rw [h787_1] at h2; exact absurd h2 (by decide)
        have a829 : tW T N (tE T N i) 4 = 1 := q778.mp h787_1
        have a830 : ¬ tW T N (tE T N i) 5 = 1 := fun h => by have h2 := q779.mpr h; rw [h787_1] at h2; exact absurd h2 (by decide)
        have a831 : ¬ tW T N (tE T N i) 6 = 1 := fun h => by have h2 := q780.mpr h; rw [h787_1] at h2; exact absurd h2 (by decide)
        have q832 : tQ T N (tE T N i) = 3 := tQ_a3 q775 a827 a828 a829
        clear a827 a828 a829 a830 a831 q776 q777 q778 q779 q780
        show MW p l e _ s m args below meth c _ 4 G 0 0 39 [some (.ref (G.1 22 0)), some (.int (gV σ 23 0 152)), none, none] [.int x784] τ781
        refine m_goto (tgt := 43) C dX12_takePerson_39 (by decide) ?_
        exact J43 τ781 (gV σ 23 0 152) x784 i782 g786 b746 (iv_wk b826 (by decide)) v788 v789 ⟨v790, by omega, by omega, by omega, by omega, by omega, by omega, by omega⟩ (by omega)
      · skip
        have b833 : IV x784 (-1) (-1) := ⟨by omega, by omega⟩
        have a834 : ¬ tW T N (tE T N i) 2 = 1 := fun h => h787_1 (q776.mpr h)
        have a835 : ¬ tW T N (tE T N i) 3 = 1 := fun h => h787_3 (q777.mpr h)
        have a836 : ¬ tW T N (tE T N i) 4 = 1 := fun h => h787_5 (q778.mpr h)
        have a837 : ¬ tW T N (tE T N i) 5 = 1 := fun h => h787_2 (q779.mpr h)
        have a838 : ¬ tW T N (tE T N i) 6 = 1 := fun h => h787_4 (q780.mpr h)
        have q839 : tQ T N (tE T N i) = 0 := tQ_a0 q775 a834 a835 a836 a837 a838
        clear a834 a835 a836 a837 a838 q776 q777 q778 q779 q780
        show MW p l e _ s m args below meth c _ 4 G 0 0 39 [some (.ref (G.1 22 0)), some (.int (gV σ 23 0 152)), none, none] [.int x784] τ781
        refine m_goto (tgt := 43) C dX12_takePerson_39 (by decide) ?_
        exact J43 τ781 (gV σ 23 0 152) x784 i782 g786 b746 (iv_wk b833 (by decide)) v788 v789 ⟨v790, by omega, by omega, by omega, by omega, by omega, by omega, by omega⟩ (by omega)
  · have f840 : (gV σ 23 0 152).toInt = 7 := by
      have q : _ := c744
      simp only [ti_nle, ti_nlt, ti_le, ti_lt, ti_eq, ti_ne, Classical.not_not, kt_7] at q
      omega
    have b841 : IV (gV σ 23 0 152) 7 7 := ⟨by have q1 := u739; have q2 := kc_7; omega, by have q1 := u739; have q2 := kc_7; omega⟩
    refine m_aload_n C dX12_takePerson_15 rfl rfl ?_
    refine m_iconst (v := 3) C dX12_takePerson_16 (by decide) ?_
    refine p_22_16 C q4_132 dX12_takePerson_17 ?_
    refine m_tops (fun τ842 eτ842 => ?_)
    have i843 : Inv τ842 := eτ842 ▸ Inv.putF hI (by decide) rfl
    have f844 : Fr MS_X12_takePersonE AS_X12_takePersonE σ τ842 := eτ842 ▸ Fr.put (Fr.rf) (Or.inl (by decide))
    have v845 : CP (gV σ 23 0 152).toInt τ842 := (hPb.cp hI).put eτ842 (Or.inl (by decide))
    have v846 : TpM τ842 T N := hT.put eτ842 (Or.inr (by decide)) (by decide)
    have v847 : τ842.2.2.1 = σ.2.2.1 := by rw [eτ842]; rfl
    have v848 : CuM T N i τ842 := CuM.put hcur eτ842 (Or.inr (by decide))
    have q849 : (gV τ842 22 0 11).toInt = (gV σ 22 0 11).toInt := congrArg Int32.toInt (show (gV τ842 22 0 11) = (gV σ 22 0 11) from (show gV τ842 22 0 11 = (gV σ 22 0 11) from gV_put eτ842 rfl))
    have q850 : (gV τ842 22 0 12).toInt = (gV σ 22 0 12).toInt := congrArg Int32.toInt (show (gV τ842 22 0 12) = (gV σ 22 0 12) from (show gV τ842 22 0 12 = (gV σ 22 0 12) from gV_put eτ842 rfl))
    have q851 : (gV τ842 22 0 6).toInt = (gV σ 22 0 6).toInt := congrArg Int32.toInt (show (gV τ842 22 0 6) = (gV σ 22 0 6) from (show gV τ842 22 0 6 = (gV σ 22 0 6) from gV_put eτ842 rfl))
    have q852 : (gV τ842 23 0 150).toInt = (gV σ 23 0 150).toInt := congrArg Int32.toInt (show (gV τ842 23 0 150) = (gV σ 23 0 150) from (show gV τ842 23 0 150 = (gV σ 23 0 150) from gV_put eτ842 rfl))
    have q853 : (gV τ842 23 0 152).toInt = (gV σ 23 0 152).toInt := congrArg Int32.toInt (show (gV τ842 23 0 152) = (gV σ 23 0 152) from (show gV τ842 23 0 152 = (gV σ 23 0 152) from gV_put eτ842 rfl))
    have q854 : (gV τ842 23 0 188).toInt = (gV σ 23 0 188).toInt := congrArg Int32.toInt (show (gV τ842 23 0 188) = (gV σ 23 0 188) from (show gV τ842 23 0 188 = (gV σ 23 0 188) from gV_put eτ842 rfl))
    have q855 : (gV τ842 22 0 16).toInt = 3 := (congrArg Int32.toInt (show (gV τ842 22 0 16) = 3 from (show gV τ842 22 0 16 = 3 from gV_put eτ842 (gV_self _ _ _ _ _)))).trans kt_3
    exact m_vret C hr hlk (by decide) (by decide) dX12_takePerson_20 ⟨rfl, i843, f844, (by have qd := per_0 T N st cc i (by omega); exact Or.inl ⟨by omega, by omega, by omega, by omega, by omega, by omega⟩)⟩
