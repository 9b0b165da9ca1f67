abbrev MS_X12_takePersonE : List (Nat × Nat) := [(22, 11), (22, 12), (22, 13), (22, 15), (22, 16)]
abbrev AS_X12_takePersonE : List Nat := [23]
set_option maxHeartbeats 4000000 in
set_option maxRecDepth 100000 in
theorem c_X12_takePersonE (l : Launch) (G : Gt) (σ : Sg) (T : Nat → Int) (N : Nat) (i : Nat) (st : Int) (cc : Int) (hI : Inv σ) (hT : TpM σ T N) (hcur : CuM T N i σ) (hat : (gV σ 22 0 11).toInt ≤ (gV σ 22 0 6).toInt) (htk : tK T N i = 1) (hf0 : (gV σ 22 0 16).toInt = 0) (hPb : Pb σ) (hst : ((gV σ 23 0 150).toInt = st ∧ 4 ≤ st ∧ st ≤ 32 ∧ (gV σ 23 0 152).toInt = cc)) : Mc l G yX12_takePerson cX12_takePerson 4 none 3 69 0 0 [.ref (G.1 22 0)] σ (PV fun τ => Inv τ ∧ Fr MS_X12_takePersonE AS_X12_takePersonE σ τ ∧ ((perF T N st cc i ≠ 0 ∧ ((gV τ 22 0 16).toInt = perF T N st cc i ∧ 1 ≤ (gV τ 22 0 16).toInt ∧ (gV τ 22 0 16).toInt ≤ 3) ∧ ((gV τ 22 0 12).toInt = perP T N st cc i ∧ 0 ≤ (gV τ 22 0 12).toInt ∧ (gV τ 22 0 12).toInt ≤ 400) ∧ ((gV τ 23 0 152).toInt = cc ∨ (gV τ 23 0 152).toInt = cc + 1) ∧ ((gV τ 23 0 150).toInt = (gV σ 23 0 150).toInt ∧ (gV τ 23 0 188).toInt = (gV σ 23 0 188).toInt) ∧ (gV τ 22 0 11).toInt ≤ (gV τ 22 0 6).toInt) ∨ (perF T N st cc i = 0 ∧ (gV τ 22 0 16).toInt = 0 ∧ (gV τ 23 0 152).toInt = cc + 1 ∧ ((gV τ 22 0 12).toInt = (tS T (tE T N (tE T N (tE T N (tE T N (tE T N (tE T N i)))))) : Int) ∧ (tK T N (tE T N (tE T N (tE T N (tE T N (tE T N (tE T N i)))))) ≠ 4 → (gV τ 22 0 11).toInt = (tE T N (tE T N (tE T N (tE T N (tE T N (tE T N (tE T N i)))))) : Int)) ∧ (gV τ 22 0 13).toInt = (tK T N (tE T N (tE T N (tE T N (tE T N (tE T N (tE T N i)))))) + 4) % 5 ∧ 0 ≤ tK T N (tE T N (tE T N (tE T N (tE T N (tE T N (tE T N i)))))) ∧ tK T N (tE T N (tE T N (tE T N (tE T N (tE T N (tE T N i)))))) ≤ 4 ∧ (tK T N (tE T N (tE T N (tE T N (tE T N (tE T N (tE T N i)))))) = 2 → (gV τ 22 0 15).toInt = tV T (tE T N (tE T N (tE T N (tE T N (tE T N (tE T N i))))))) ∧ (gV τ 22 0 12).toInt ≤ 400) ∧ ((gV τ 23 0 150).toInt = (gV σ 23 0 150).toInt ∧ (gV τ 23 0 188).toInt = (gV σ 23 0 188).toInt) ∧ (gV τ 22 0 11).toInt ≤ (gV τ 22 0 6).toInt ∧ Pb τ ∧ LW T N (tE T N (tE T N (tE T N (tE T N (tE T N (tE T N i)))))) τ.2.2.1))) := by
  refine Mc.of (L0 := [some (.ref (G.1 22 0)), none, none, none]) (by decide) (Nat.le_of_ble_eq_true rfl) rfl ?_
  intro p e s m args below meth c C hr hlk
  have C : Cx p s m args c cX12_takePerson 4 "LeanTowerModel" := C
  have k0 : (0 : Int32).toInt = 0 := by decide
  have k1 : (1 : Int32).toInt = 1 := by decide
  have J43 : ∀ (τ : Sg) (y1 : Int32) (z0 : Int32), Inv τ → Fr MS_X12_takePersonE AS_X12_takePersonE σ τ → IV y1 0 6 → IV z0 (-1) 5 → (CP (gV σ 23 0 152).toInt τ) → (TpM τ T N) → ((CuM T N (tE T N i) τ ∧ (gV τ 22 0 11).toInt ≤ (gV τ 22 0 6).toInt ∧ (gV τ 22 0 16).toInt = 0 ∧ (gV τ 23 0 150).toInt = st ∧ (gV τ 23 0 152).toInt = cc ∧ (gV τ 23 0 188).toInt = (gV σ 23 0 188).toInt ∧ cc ≤ 6 ∧ y1.toInt = cc)) → (((z0.toInt = -1 ∧ tQ T N (tE T N i) = 0) ∨ (1 ≤ z0.toInt ∧ z0.toInt ≤ 5 ∧ z0.toInt = tQ T N (tE T N i)))) → MW p l e { frames := 3, cells := 0, slots := 0, locals := 69 } s m args below meth c (MQ below (QP G (PV fun τ => Inv τ ∧ Fr MS_X12_takePersonE AS_X12_takePersonE σ τ ∧ ((perF T N st cc i ≠ 0 ∧ ((gV τ 22 0 16).toInt = perF T N st cc i ∧ 1 ≤ (gV τ 22 0 16).toInt ∧ (gV τ 22 0 16).toInt ≤ 3) ∧ ((gV τ 22 0 12).toInt = perP T N st cc i ∧ 0 ≤ (gV τ 22 0 12).toInt ∧ (gV τ 22 0 12).toInt ≤ 400) ∧ ((gV τ 23 0 152).toInt = cc ∨ (gV τ 23 0 152).toInt = cc + 1) ∧ ((gV τ 23 0 150).toInt = (gV σ 23 0 150).toInt ∧ (gV τ 23 0 188).toInt = (gV σ 23 0 188).toInt) ∧ (gV τ 22 0 11).toInt ≤ (gV τ 22 0 6).toInt) ∨ (perF T N st cc i = 0 ∧ (gV τ 22 0 16).toInt = 0 ∧ (gV τ 23 0 152).toInt = cc + 1 ∧ ((gV τ 22 0 12).toInt = (tS T (tE T N (tE T N (tE T N (tE T N (tE T N (tE T N i)))))) : Int) ∧ (tK T N (tE T N (tE T N (tE T N (tE T N (tE T N (tE T N i)))))) ≠ 4 → (gV τ 22 0 11).toInt = (tE T N (tE T N (tE T N (tE T N (tE T N (tE T N (tE T N i)))))) : Int)) ∧ (gV τ 22 0 13).toInt = (tK T N (tE T N (tE T N (tE T N (tE T N (tE T N (tE T N i)))))) + 4) % 5 ∧ 0 ≤ tK T N (tE T N (tE T N (tE T N (tE T N (tE T N (tE T N i)))))) ∧ tK T N (tE T N (tE T N (tE T N (tE T N (tE T N (tE T N i)))))) ≤ 4 ∧ (tK T N (tE T N (tE T N (tE T N (tE T N (tE T N (tE T N i)))))) = 2 → (gV τ 22 0 15).toInt = tV T (tE T N (tE T N (tE T N (tE T N (tE T N (tE T N i))))))) ∧ (gV τ 22 0 12).toInt ≤ 400) ∧ ((gV τ 23 0 150).toInt = (gV σ 23 0 150).toInt ∧ (gV τ 23 0 188).toInt = (gV σ 23 0 188).toInt) ∧ (gV τ 22 0 11).toInt ≤ (gV τ 22 0 6).toInt ∧ Pb τ ∧ LW T N (tE T N (tE T N (tE T N (tE T N (tE T N (tE T N i)))))) τ.2.2.1)))) args s 0 0 (aG G)) 4 G 0 0 43 [some (.ref (G.1 22 0)), some (.int y1), none, none] [.int z0] τ := by
    intro τ y1 z0 iτ fτ b_y1 b_z0 v_CP v_T nA nB
    have u1 : IV (gV τ 22 0 11) 0 400 := iτ.1 22 0 11
    have u2 : IV (gV τ 22 0 6) 0 400 := iτ.1 22 0 6
    have u3 : IV (gV τ 23 0 152) 0 7 := iτ.1 23 0 152
    have u4 : IV (gV τ 23 0 188) 0 4 := iτ.1 23 0 188
    have q5 : (gV τ 22 0 6).toInt = (N : Int) := v_T.1
    have q6 := v_T.2.1
    obtain ⟨nc_, na_, nf_, ns_, nw_, nx_, ny_, nz_⟩ := nA
    rcases nB with ⟨nq_, nr_⟩ | ⟨nq_, nr_, nt_⟩
    · have b7 : IV z0 (-1) (-1) := ⟨by omega, by omega⟩
      have b8 : IV (gV τ 22 0 16) 0 0 := ⟨by omega, by omega⟩
      refine m_istore_n (L1 := [some (.ref (G.1 22 0)), some (.int y1), some (.int z0), none]) C dX12_takePerson_43 rfl (by decide) rfl rfl ?_
      refine m_iload_n C dX12_takePerson_44 rfl rfl ?_
      refine m_if_ge (tgt := 54) C dX12_takePerson_45 (by decide) (fun c9 => ?_) (fun c9 => ?_)
      · exfalso
        have q : _ := c9
        simp only [ti_nle, ti_nlt, ti_le, ti_lt, ti_eq, ti_ne, Classical.not_not, kt_0] at q
        have q1 := b7; have q2 := kc_0; omega
      · have f11 : z0.toInt < 0 := by
          have q : _ := c9
          simp only [ti_nle, ti_nlt, ti_le, ti_lt, ti_eq, ti_ne, Classical.not_not, kt_0] at q
          omega
        have q12 : (gV τ 22 0 12).toInt = (tS T (tE T N i) : Int) ∧ (gV τ 22 0 12).toInt ≤ 400 := ⟨nc_.1.1, nc_.1.2.2.2.2.2.2⟩
        refine m_aload_n C dX12_takePerson_48 rfl rfl ?_
        refine m_iconst (v := 1) C dX12_takePerson_49 (by decide) ?_
        refine p_22_16 C q4_132 dX12_takePerson_50 ?_
        refine m_tops (fun τ13 eτ13 => ?_)
        have i14 : Inv τ13 := eτ13 ▸ Inv.putF iτ (by decide) rfl
        have f15 : Fr MS_X12_takePersonE AS_X12_takePersonE σ τ13 := eτ13 ▸ Fr.put (fτ) (Or.inl (by decide))
        have v16 : CP (gV σ 23 0 152).toInt τ13 := v_CP.put eτ13 (Or.inl (by decide))
        have v17 : TpM τ13 T N := v_T.put eτ13 (Or.inr (by decide)) (by decide)
        have v18 : τ13.2.2.1 = τ.2.2.1 := by rw [eτ13]; rfl
        have v19 : CuM T N (tE T N i) τ13 := CuM.put nc_ eτ13 (Or.inr (by decide))
        have a20 : gV τ13 22 0 11 = (gV τ 22 0 11) := (show gV τ13 22 0 11 = (gV τ 22 0 11) from gV_put eτ13 rfl)
        have q21 : (gV τ13 22 0 11).toInt = (gV τ 22 0 11).toInt := congrArg Int32.toInt a20
        have a22 : gV τ13 22 0 12 = (gV τ 22 0 12) := (show gV τ13 22 0 12 = (gV τ 22 0 12) from gV_put eτ13 rfl)
        have q23 : (gV τ13 22 0 12).toInt = (gV τ 22 0 12).toInt := congrArg Int32.toInt a22
        have a24 : gV τ13 22 0 6 = (gV τ 22 0 6) := (show gV τ13 22 0 6 = (gV τ 22 0 6) from gV_put eτ13 rfl)
        have q25 : (gV τ13 22 0 6).toInt = (gV τ 22 0 6).toInt := congrArg Int32.toInt a24
        have a26 : gV τ13 23 0 150 = (gV τ 23 0 150) := (show gV τ13 23 0 150 = (gV τ 23 0 150) from gV_put eτ13 rfl)
        have q27 : (gV τ13 23 0 150).toInt = (gV τ 23 0 150).toInt := congrArg Int32.toInt a26
        have a28 : gV τ13 23 0 152 = (gV τ 23 0 152) := (show gV τ13 23 0 152 = (gV τ 23 0 152) from gV_put eτ13 rfl)
        have q29 : (gV τ13 23 0 152).toInt = (gV τ 23 0 152).toInt := congrArg Int32.toInt a28
        have a30 : gV τ13 23 0 188 = (gV τ 23 0 188) := (show gV τ13 23 0 188 = (gV τ 23 0 188) from gV_put eτ13 rfl)
        have q31 : (gV τ13 23 0 188).toInt = (gV τ 23 0 188).toInt := congrArg Int32.toInt a30
        have a32 : gV τ13 22 0 16 = 1 := (show gV τ13 22 0 16 = 1 from gV_put eτ13 (gV_self _ _ _ _ _))
        have q33 : (gV τ13 22 0 16).toInt = 1 := (congrArg Int32.toInt a32).trans kt_1
        exact m_vret C hr hlk (by decide) (by decide) dX12_takePerson_53 ⟨rfl, i14, f15, (by have qd := per_1 T N st cc i (by omega) (by omega); exact Or.inl ⟨by omega, by omega, by omega, by omega, by omega, by omega⟩)⟩
    · have b34 : IV z0 1 5 := ⟨by omega, by omega⟩
      have b35 : IV (gV τ 22 0 16) 0 0 := ⟨by omega, by omega⟩
      have nk_ := tQ_k (T := T) (N := N) (i := (tE T N i)) (by omega)
      refine m_istore_n (L1 := [some (.ref (G.1 22 0)), some (.int y1), some (.int z0), none]) C dX12_takePerson_43 rfl (by decide) rfl rfl ?_
      refine m_iload_n C dX12_takePerson_44 rfl rfl ?_
      refine m_if_ge (tgt := 54) C dX12_takePerson_45 (by decide) (fun c36 => ?_) (fun c36 => ?_)
      · have f37 : 0 ≤ z0.toInt := by
          have q : _ := c36
          simp only [ti_nle, ti_nlt, ti_le, ti_lt, ti_eq, ti_ne, Classical.not_not, kt_0] at q
          omega
        refine m_aload_n C dX12_takePerson_54 rfl rfl ?_
        refine m_callV (n := 0) (ci := 11) (st := []) C (c_X12_nextE l G τ T N (tE T N (tE T N i))  iτ v_T (by have qc := nc_.1; omega)) (by decide) (by decide) rfl rfl rfl q4_231 q4_228 q4_230 q0_28 q1_7 (by decide +kernel) rfl (by decide) (by decide) rfl (Nat.le_of_ble_eq_true rfl) dX12_takePerson_55 ?_
        rintro _ τ38 ⟨rfl, i39, f40, h44⟩
        have g43 : Fr MS_X12_takePersonE AS_X12_takePersonE σ τ38 := Fr.call (fτ) f40 (by decide)
        have v45 : CP (gV σ 23 0 152).toInt τ38 := v_CP.call (fun k => f40.1 23 0 k (by simp) (by decide))
        have v46 : TpM τ38 T N := v_T.fr f40 (by decide) (by decide) (by simp) (by decide)
        obtain ⟨h47, h49, v48⟩ := h44
        have v50 : CuM T N (tE T N (tE T N i)) τ38 := ⟨h47, h49⟩
        clear h47
        have u51 : IV (gV τ38 22 0 11) 0 400 := i39.1 22 0 11
        have a52 : gV τ38 22 0 16 = (gV τ 22 0 16) := (show gV τ38 22 0 16 = (gV τ 22 0 16) from (f40.1 22 0 (16) (by decide) (by decide)).trans rfl)
        have q53 : (gV τ38 22 0 16).toInt = (gV τ 22 0 16).toInt := congrArg Int32.toInt a52
        have a54 : gV τ38 22 0 6 = (gV τ 22 0 6) := (show gV τ38 22 0 6 = (gV τ 22 0 6) from (f40.1 22 0 (6) (by decide) (by decide)).trans rfl)
        have q55 : (gV τ38 22 0 6).toInt = (gV τ 22 0 6).toInt := congrArg Int32.toInt a54
        have a56 : gV τ38 23 0 150 = (gV τ 23 0 150) := (show gV τ38 23 0 150 = (gV τ 23 0 150) from (f40.1 23 0 (150) (by decide) (by decide)).trans rfl)
        have q57 : (gV τ38 23 0 150).toInt = (gV τ 23 0 150).toInt := congrArg Int32.toInt a56
        have a58 : gV τ38 23 0 152 = (gV τ 23 0 152) := (show gV τ38 23 0 152 = (gV τ 23 0 152) from (f40.1 23 0 (152) (by decide) (by decide)).trans rfl)
        have q59 : (gV τ38 23 0 152).toInt = (gV τ 23 0 152).toInt := congrArg Int32.toInt a58
        have a60 : gV τ38 23 0 188 = (gV τ 23 0 188) := (show gV τ38 23 0 188 = (gV τ 23 0 188) from (f40.1 23 0 (188) (by decide) (by decide)).trans rfl)
        have q61 : (gV τ38 23 0 188).toInt = (gV τ 23 0 188).toInt := congrArg Int32.toInt a60
        show MW p l e _ s m args below meth c _ 4 G 0 0 58 [some (.ref (G.1 22 0)), some (.int y1), some (.int z0), none] [] τ38
        refine m_aload_n C dX12_takePerson_58 rfl rfl ?_
        refine g_22_0 C q4_116 dX12_takePerson_59 ?_
        refine m_sipush (v := 153) C dX12_takePerson_62 (by decide) ?_
        refine m_iload_n C dX12_takePerson_65 rfl rfl ?_
        refine m_iadd C dX12_takePerson_66 ?_
        refine m_topi (fun x62 ex62 => ?_)
        have tx62 : x62.toInt = 153 + y1.toInt := by rw [ex62, ti_addv kc_153 b_y1 (by decide), kt_153]
        have b63 : IV x62 153 159 := by rw [ex62]; exact iv_add kc_153 b_y1 (by decide)
        refine m_iload_n C dX12_takePerson_67 rfl rfl ?_
        refine as_23 C b63 (by decide) rfl dX12_takePerson_68 ?_
        refine m_tops (fun τ64 eτ64 => ?_)
        have i65 : Inv τ64 := eτ64 ▸ Inv.putRo i39 (by omega)
        have f66 : Fr MS_X12_takePersonE AS_X12_takePersonE σ τ64 := eτ64 ▸ Fr.put (g43) (Or.inr (by decide))
        have v67 : CP (gV σ 23 0 152).toInt τ64 := v45.put eτ64 (Or.inr (fun q hq => by omega))
        have v68 : TpM τ64 T N := v46.put eτ64 (Or.inl (by decide)) (by decide)
        have v69 : LW T N (tE T N (tE T N i)) τ64.2.2.1 := by rw [eτ64]; exact v48
        have v70 : CuM T N (tE T N (tE T N i)) τ64 := CuM.put v50 eτ64 (Or.inl (by decide))
        refine m_aload_n C dX12_takePerson_69 rfl rfl ?_
        refine g_22_0 C q4_116 dX12_takePerson_70 ?_
        refine m_sipush (v := 160) C dX12_takePerson_73 (by decide) ?_
        refine m_iload_n C dX12_takePerson_76 rfl rfl ?_
        refine m_iadd C dX12_takePerson_77 ?_
        refine m_topi (fun x71 ex71 => ?_)
        have tx71 : x71.toInt = 160 + y1.toInt := by rw [ex71, ti_addv kc_160 b_y1 (by decide), kt_160]
        have b72 : IV x71 160 166 := by rw [ex71]; exact iv_add kc_160 b_y1 (by decide)
        refine m_aload_n C dX12_takePerson_78 rfl rfl ?_
        refine m_iconst (v := 1) C dX12_takePerson_79 (by decide) ?_
        refine m_bipush (v := 20) C dX12_takePerson_80 (by decide) ?_
        refine m_iconst (v := 1) C dX12_takePerson_82 (by decide) ?_
        have a73 : gV τ64 22 0 16 = (gV τ 22 0 16) := (show gV τ64 22 0 16 = (gV τ 22 0 16) from gV_put eτ64 a52)
        have q74 : (gV τ64 22 0 16).toInt = (gV τ 22 0 16).toInt := congrArg Int32.toInt a73
        have a75 : gV τ64 22 0 6 = (gV τ 22 0 6) := (show gV τ64 22 0 6 = (gV τ 22 0 6) from gV_put eτ64 a54)
        have q76 : (gV τ64 22 0 6).toInt = (gV τ 22 0 6).toInt := congrArg Int32.toInt a75
        have a77 : gV τ64 23 0 150 = (gV τ 23 0 150) := (show gV τ64 23 0 150 = (gV τ 23 0 150) from (gV_putn eτ64 (Or.inr (Or.inr (nat_ne b63 (by decide))))).trans a56)
        have q78 : (gV τ64 23 0 150).toInt = (gV τ 23 0 150).toInt := congrArg Int32.toInt a77
        have a79 : gV τ64 23 0 152 = (gV τ 23 0 152) := (show gV τ64 23 0 152 = (gV τ 23 0 152) from (gV_putn eτ64 (Or.inr (Or.inr (nat_ne b63 (by decide))))).trans a58)
        have q80 : (gV τ64 23 0 152).toInt = (gV τ 23 0 152).toInt := congrArg Int32.toInt a79
        have a81 : gV τ64 23 0 188 = (gV τ 23 0 188) := (show gV τ64 23 0 188 = (gV τ 23 0 188) from (gV_putn eτ64 (Or.inr (Or.inr (nat_ne b63 (by decide))))).trans a60)
        have q82 : (gV τ64 23 0 188).toInt = (gV τ 23 0 188).toInt := congrArg Int32.toInt a81
        have a83 : gV τ64 22 0 11 = (gV τ38 22 0 11) := (show gV τ64 22 0 11 = (gV τ38 22 0 11) from gV_put eτ64 rfl)
        have q84 : (gV τ64 22 0 11).toInt = (gV τ38 22 0 11).toInt := congrArg Int32.toInt a83
        have a85 : gV τ64 22 0 12 = (gV τ38 22 0 12) := (show gV τ64 22 0 12 = (gV τ38 22 0 12) from gV_put eτ64 rfl)
        have q86 : (gV τ64 22 0 12).toInt = (gV τ38 22 0 12).toInt := congrArg Int32.toInt a85
        have q87 := kt_1
        have q88 := kt_20
        have q89 := kt_1
        refine m_callV (n := 3) (ci := 11) (st := [.int x71, .ref (G.1 23 0)]) C (c_X12_takeNumberE l G τ64 T N (tE T N (tE T N i)) (1) (20) (1) i65 v68 v70.1 (by omega)) (by decide) (by decide) rfl rfl rfl q5_7 q5_4 q5_6 q0_30 q1_7 (by decide +kernel) rfl (by decide) (by decide) rfl (Nat.le_of_ble_eq_true rfl) dX12_takePerson_83 ?_
        rintro _ τ90 ⟨x93, rfl, i91, f92, b94, h96⟩
        have g95 : Fr MS_X12_takePersonE AS_X12_takePersonE σ τ90 := Fr.call (f66) f92 (by decide)
        have v97 : CP (gV σ 23 0 152).toInt τ90 := v67.call (fun k => f92.1 23 0 k (by simp) (by decide))
        have v98 : TpM τ90 T N := v68.fr f92 (by decide) (by decide) (by simp) (by decide)
        have u99 : IV (gV τ90 22 0 11) 0 400 := i91.1 22 0 11
        have a100 : gV τ90 22 0 6 = (gV τ 22 0 6) := (show gV τ90 22 0 6 = (gV τ 22 0 6) from (f92.1 22 0 (6) (by decide) (by decide)).trans a75)
        have q101 : (gV τ90 22 0 6).toInt = (gV τ 22 0 6).toInt := congrArg Int32.toInt a100
        have a102 : gV τ90 23 0 150 = (gV τ 23 0 150) := (show gV τ90 23 0 150 = (gV τ 23 0 150) from (f92.1 23 0 (150) (by decide) (by decide)).trans a77)
        have q103 : (gV τ90 23 0 150).toInt = (gV τ 23 0 150).toInt := congrArg Int32.toInt a102
        have a104 : gV τ90 23 0 152 = (gV τ 23 0 152) := (show gV τ90 23 0 152 = (gV τ 23 0 152) from (f92.1 23 0 (152) (by decide) (by decide)).trans a79)
        have q105 : (gV τ90 23 0 152).toInt = (gV τ 23 0 152).toInt := congrArg Int32.toInt a104
        have a106 : gV τ90 23 0 188 = (gV τ 23 0 188) := (show gV τ90 23 0 188 = (gV τ 23 0 188) from (f92.1 23 0 (188) (by decide) (by decide)).trans a81)
        have q107 : (gV τ90 23 0 188).toInt = (gV τ 23 0 188).toInt := congrArg Int32.toInt a106
        rcases h96 with ⟨h96_0, h96_1, h96_2, h96_3, h96_4⟩ | ⟨h96_0, h96_1, h96_2, h96_3, h96_4, h96_5, h96_6⟩ | ⟨h96_0, h96_1, h96_2, h96_3, h96_4, h96_5, h96_6⟩
        · skip
          have b108 : IV x93 (-1) (-1) := ⟨by omega, by omega⟩
          have b109 : IV (gV τ90 22 0 16) 1 1 := ⟨by omega, by omega⟩
          show MW p l e _ s m args below meth c _ 4 G 0 0 86 [some (.ref (G.1 22 0)), some (.int y1), some (.int z0), none] [.int x93, .int x71, .ref (G.1 23 0)] τ90
          refine as_23 C b72 (by decide) rfl dX12_takePerson_86 ?_
          refine m_tops (fun τ110 eτ110 => ?_)
          have i111 : Inv τ110 := eτ110 ▸ Inv.putRo i91 (by omega)
          have f112 : Fr MS_X12_takePersonE AS_X12_takePersonE σ τ110 := eτ110 ▸ Fr.put (g95) (Or.inr (by decide))
          have v113 : CP (gV σ 23 0 152).toInt τ110 := v97.put eτ110 (Or.inr (fun q hq => by omega))
          have v114 : TpM τ110 T N := v98.put eτ110 (Or.inl (by decide)) (by decide)
          refine m_aload_n C dX12_takePerson_87 rfl rfl ?_
          refine g_22_0 C q4_116 dX12_takePerson_88 ?_
          refine m_sipush (v := 167) C dX12_takePerson_91 (by decide) ?_
          refine m_iload_n C dX12_takePerson_94 rfl rfl ?_
          refine m_iadd C dX12_takePerson_95 ?_
          refine m_topi (fun x115 ex115 => ?_)
          have tx115 : x115.toInt = 167 + y1.toInt := by rw [ex115, ti_addv kc_167 b_y1 (by decide), kt_167]
          have b116 : IV x115 167 173 := by rw [ex115]; exact iv_add kc_167 b_y1 (by decide)
          refine m_aload_n C dX12_takePerson_96 rfl rfl ?_
          refine g_22_16 C q4_132 dX12_takePerson_97 ?_
          refine m_eqs (w := (gV τ90 22 0 16)) (show gV τ110 22 0 16 = (gV τ90 22 0 16) from gV_put eτ110 rfl) ?_
          refine m_if_ne (tgt := 113) C dX12_takePerson_100 (by decide) (fun c117 => ?_) (fun c117 => ?_)
          · have f118 : (gV τ90 22 0 16).toInt ≠ 0 := by
              have q : _ := c117
              simp only [ti_nle, ti_nlt, ti_le, ti_lt, ti_eq, ti_ne, Classical.not_not, kt_0] at q
              omega
            refine m_iconst (v := 0) C dX12_takePerson_113 (by decide) ?_
            refine as_23 C b116 (by decide) rfl dX12_takePerson_114 ?_
            refine m_tops (fun τ119 eτ119 => ?_)
            have i120 : Inv τ119 := eτ119 ▸ Inv.putR0 i111 (by omega) kt_0
            have f121 : Fr MS_X12_takePersonE AS_X12_takePersonE σ τ119 := eτ119 ▸ Fr.put (f112) (Or.inr (by decide))
            have v122 : CP (gV σ 23 0 152).toInt τ119 := v113.put eτ119 (Or.inr (fun q hq => by omega))
            have v123 : TpM τ119 T N := v114.put eτ119 (Or.inl (by decide)) (by decide)
            have a124 : gV τ119 22 0 6 = (gV τ 22 0 6) := (show gV τ119 22 0 6 = (gV τ 22 0 6) from gV_put eτ119 (show gV τ110 22 0 6 = (gV τ 22 0 6) from gV_put eτ110 a100))
            have q125 : (gV τ119 22 0 6).toInt = (gV τ 22 0 6).toInt := congrArg Int32.toInt a124
            have a126 : gV τ119 23 0 150 = (gV τ 23 0 150) := (show gV τ119 23 0 150 = (gV τ 23 0 150) from (gV_putn eτ119 (Or.inr (Or.inr (nat_ne b116 (by decide))))).trans (show gV τ110 23 0 150 = (gV τ 23 0 150) from (gV_putn eτ110 (Or.inr (Or.inr (nat_ne b72 (by decide))))).trans a102))
            have q127 : (gV τ119 23 0 150).toInt = (gV τ 23 0 150).toInt := congrArg Int32.toInt a126
            have a128 : gV τ119 23 0 152 = (gV τ 23 0 152) := (show gV τ119 23 0 152 = (gV τ 23 0 152) from (gV_putn eτ119 (Or.inr (Or.inr (nat_ne b116 (by decide))))).trans (show gV τ110 23 0 152 = (gV τ 23 0 152) from (gV_putn eτ110 (Or.inr (Or.inr (nat_ne b72 (by decide))))).trans a104))
            have q129 : (gV τ119 23 0 152).toInt = (gV τ 23 0 152).toInt := congrArg Int32.toInt a128
            have a130 : gV τ119 23 0 188 = (gV τ 23 0 188) := (show gV τ119 23 0 188 = (gV τ 23 0 188) from (gV_putn eτ119 (Or.inr (Or.inr (nat_ne b116 (by decide))))).trans (show gV τ110 23 0 188 = (gV τ 23 0 188) from (gV_putn eτ110 (Or.inr (Or.inr (nat_ne b72 (by decide))))).trans a106))
            have q131 : (gV τ119 23 0 188).toInt = (gV τ 23 0 188).toInt := congrArg Int32.toInt a130
            have a132 : gV τ119 22 0 11 = (gV τ90 22 0 11) := (show gV τ119 22 0 11 = (gV τ90 22 0 11) from gV_put eτ119 (show gV τ110 22 0 11 = (gV τ90 22 0 11) from gV_put eτ110 rfl))
            have q133 : (gV τ119 22 0 11).toInt = (gV τ90 22 0 11).toInt := congrArg Int32.toInt a132
            have a134 : gV τ119 22 0 12 = (gV τ90 22 0 12) := (show gV τ119 22 0 12 = (gV τ90 22 0 12) from gV_put eτ119 (show gV τ110 22 0 12 = (gV τ90 22 0 12) from gV_put eτ110 rfl))
            have q135 : (gV τ119 22 0 12).toInt = (gV τ90 22 0 12).toInt := congrArg Int32.toInt a134
            have a136 : gV τ119 22 0 16 = (gV τ90 22 0 16) := (show gV τ119 22 0 16 = (gV τ90 22 0 16) from gV_put eτ119 (show gV τ110 22 0 16 = (gV τ90 22 0 16) from gV_put eτ110 rfl))
            have q137 : (gV τ119 22 0 16).toInt = (gV τ90 22 0 16).toInt := congrArg Int32.toInt a136
            have v138 : CQ (gV σ 23 0 152).toInt.toNat τ119 := by
              intro q
              have q1 : gV τ119 23 0 (x115.toInt.toNat) = 0 := (show gV τ119 23 0 (x115.toInt.toNat) = 0 from gV_put eτ119 (gV_self _ _ _ _ _))
              rw [show 167 + (gV σ 23 0 152).toInt.toNat = (x115.toInt.toNat) by omega, q1]
              omega
            refine m_aload_n C dX12_takePerson_115 rfl rfl ?_
            refine g_22_16 C q4_132 dX12_takePerson_116 ?_
            refine m_eqs (w := (gV τ90 22 0 16)) a136 ?_
            refine m_if_ne (tgt := 142) C dX12_takePerson_119 (by decide) (fun c139 => ?_) (fun c139 => ?_)
            · have f140 : (gV τ90 22 0 16).toInt ≠ 0 := by
                have q : _ := c139
                simp only [ti_nle, ti_nlt, ti_le, ti_lt, ti_eq, ti_ne, Classical.not_not, kt_0] at q
                omega
              refine m_iconst (v := 0) C dX12_takePerson_142 (by decide) ?_
              refine m_istore_n (L1 := [some (.ref (G.1 22 0)), some (.int y1), some (.int z0), some (.int 0)]) C dX12_takePerson_143 rfl (by decide) rfl rfl ?_
              refine m_aload_n C dX12_takePerson_144 rfl rfl ?_
              refine g_22_0 C q4_116 dX12_takePerson_145 ?_
              refine m_sipush (v := 174) C dX12_takePerson_148 (by decide) ?_
              refine m_iload_n C dX12_takePerson_151 rfl rfl ?_
              refine m_iadd C dX12_takePerson_152 ?_
              refine m_topi (fun x141 ex141 => ?_)
              have tx141 : x141.toInt = 174 + y1.toInt := by rw [ex141, ti_addv kc_174 b_y1 (by decide), kt_174]
              have b142 : IV x141 174 180 := by rw [ex141]; exact iv_add kc_174 b_y1 (by decide)
              refine m_iload_n C dX12_takePerson_153 rfl rfl ?_
              refine m_bipush (v := 99) C dX12_takePerson_154 (by decide) ?_
              refine m_icmp_ne (tgt := 163) C dX12_takePerson_156 (by decide) (fun c143 => ?_) (fun c143 => ?_)
              · have f144 : 0 ≠ 99 := by
                  have q : _ := c143
                  simp only [ti_nle, ti_nlt, ti_le, ti_lt, ti_eq, ti_ne, Classical.not_not, kt_0, kt_99] at q
                  omega
                refine m_iload_n C dX12_takePerson_163 rfl rfl ?_
                refine as_23 C b142 (by decide) rfl dX12_takePerson_164 ?_
                refine m_tops (fun τ145 eτ145 => ?_)
                have i146 : Inv τ145 := eτ145 ▸ Inv.putR0 i120 (by omega) kt_0
                have f147 : Fr MS_X12_takePersonE AS_X12_takePersonE σ τ145 := eτ145 ▸ Fr.put (f121) (Or.inr (by decide))
                have v148 : CP (gV σ 23 0 152).toInt τ145 := v122.put eτ145 (Or.inr (fun q hq => by omega))
                have v149 : TpM τ145 T N := v123.put eτ145 (Or.inl (by decide)) (by decide)
                have v150 : CQ (gV σ 23 0 152).toInt.toNat τ145 := v138.put eτ145 (Or.inl (by decide)) (Or.inr (by omega))
                refine m_aload_n C dX12_takePerson_165 rfl rfl ?_
                refine g_22_0 C q4_116 dX12_takePerson_166 ?_
                refine m_sipush (v := 181) C dX12_takePerson_169 (by decide) ?_
                refine m_iload_n C dX12_takePerson_172 rfl rfl ?_
                refine m_iadd C dX12_takePerson_173 ?_
                refine m_topi (fun x151 ex151 => ?_)
                have tx151 : x151.toInt = 181 + y1.toInt := by rw [ex151, ti_addv kc_181 b_y1 (by decide), kt_181]
                have b152 : IV x151 181 187 := by rw [ex151]; exact iv_add kc_181 b_y1 (by decide)
                refine m_iconst (v := 0) C dX12_takePerson_174 (by decide) ?_
                refine as_23 C b152 (by decide) rfl dX12_takePerson_175 ?_
                refine m_tops (fun τ153 eτ153 => ?_)
                have i154 : Inv τ153 := eτ153 ▸ Inv.putR0 i146 (by omega) kt_0
                have f155 : Fr MS_X12_takePersonE AS_X12_takePersonE σ τ153 := eτ153 ▸ Fr.put (f147) (Or.inr (by decide))
                have v156 : CP (gV σ 23 0 152).toInt τ153 := v148.put eτ153 (Or.inr (fun q hq => by omega))
                have v157 : TpM τ153 T N := v149.put eτ153 (Or.inl (by decide)) (by decide)
                have v158 : CQ (gV σ 23 0 152).toInt.toNat τ153 := v150.put eτ153 (Or.inl (by decide)) (Or.inr (by omega))
                refine m_aload_n C dX12_takePerson_176 rfl rfl ?_
                refine g_22_0 C q4_116 dX12_takePerson_177 ?_
                refine m_sipush (v := 152) C dX12_takePerson_180 (by decide) ?_
                refine m_dup2 C dX12_takePerson_183 rfl rfl ?_
                refine al_23 C kc_152 (by decide) kn_152 dX12_takePerson_184 ?_
                refine m_eqs (w := (gV τ 23 0 152)) (show gV τ153 23 0 152 = (gV τ 23 0 152) from (gV_putn eτ153 (Or.inr (Or.inr (nat_ne b152 (by decide))))).trans (show gV τ145 23 0 152 = (gV τ 23 0 152) from (gV_putn eτ145 (Or.inr (Or.inr (nat_ne b142 (by decide))))).trans a128)) ?_
                refine m_iconst (v := 1) C dX12_takePerson_185 (by decide) ?_
                clear q125 q127 q129 q131 q133 q135 q137
                have a159 : gV τ153 22 0 6 = (gV τ 22 0 6) := (show gV τ153 22 0 6 = (gV τ 22 0 6) from gV_put eτ153 (show gV τ145 22 0 6 = (gV τ 22 0 6) from gV_put eτ145 a124))
                have q160 : (gV τ153 22 0 6).toInt = (gV τ 22 0 6).toInt := congrArg Int32.toInt a159
                have a161 : gV τ153 23 0 150 = (gV τ 23 0 150) := (show gV τ153 23 0 150 = (gV τ 23 0 150) from (gV_putn eτ153 (Or.inr (Or.inr (nat_ne b152 (by decide))))).trans (show gV τ145 23 0 150 = (gV τ 23 0 150) from (gV_putn eτ145 (Or.inr (Or.inr (nat_ne b142 (by decide))))).trans a126))
                have q162 : (gV τ153 23 0 150).toInt = (gV τ 23 0 150).toInt := congrArg Int32.toInt a161
                have a163 : gV τ153 23 0 152 = (gV τ 23 0 152) := (show gV τ153 23 0 152 = (gV τ 23 0 152) from (gV_putn eτ153 (Or.inr (Or.inr (nat_ne b152 (by decide))))).trans (show gV τ145 23 0 152 = (gV τ 23 0 152) from (gV_putn eτ145 (Or.inr (Or.inr (nat_ne b142 (by decide))))).trans a128))
                have q164 : (gV τ153 23 0 152).toInt = (gV τ 23 0 152).toInt := congrArg Int32.toInt a163
                have a165 : gV τ153 23 0 188 = (gV τ 23 0 188) := (show gV τ153 23 0 188 = (gV τ 23 0 188) from (gV_putn eτ153 (Or.inr (Or.inr (nat_ne b152 (by decide))))).trans (show gV τ145 23 0 188 = (gV τ 23 0 188) from (gV_putn eτ145 (Or.inr (Or.inr (nat_ne b142 (by decide))))).trans a130))
                have q166 : (gV τ153 23 0 188).toInt = (gV τ 23 0 188).toInt := congrArg Int32.toInt a165
                have a167 : gV τ153 22 0 11 = (gV τ90 22 0 11) := (show gV τ153 22 0 11 = (gV τ90 22 0 11) from gV_put eτ153 (show gV τ145 22 0 11 = (gV τ90 22 0 11) from gV_put eτ145 a132))
                have q168 : (gV τ153 22 0 11).toInt = (gV τ90 22 0 11).toInt := congrArg Int32.toInt a167
                have a169 : gV τ153 22 0 12 = (gV τ90 22 0 12) := (show gV τ153 22 0 12 = (gV τ90 22 0 12) from gV_put eτ153 (show gV τ145 22 0 12 = (gV τ90 22 0 12) from gV_put eτ145 a134))
                have q170 : (gV τ153 22 0 12).toInt = (gV τ90 22 0 12).toInt := congrArg Int32.toInt a169
                have a171 : gV τ153 22 0 16 = (gV τ90 22 0 16) := (show gV τ153 22 0 16 = (gV τ90 22 0 16) from gV_put eτ153 (show gV τ145 22 0 16 = (gV τ90 22 0 16) from gV_put eτ145 a136))
                have q172 : (gV τ153 22 0 16).toInt = (gV τ90 22 0 16).toInt := congrArg Int32.toInt a171
                have b173 : IV (gV τ 23 0 152) 0 6 := ⟨by have q1 := u3; omega, by have q1 := u3; omega⟩
                refine m_iadd C dX12_takePerson_186 ?_
                refine m_topi (fun x174 ex174 => ?_)
                have tx174 : x174.toInt = (gV τ 23 0 152).toInt + 1 := by rw [ex174, ti_addv b173 kc_1 (by decide), kt_1]
                have b175 : IV x174 1 7 := by rw [ex174]; exact iv_add b173 kc_1 (by decide)
                refine as_23 C kc_152 (by decide) kn_152 dX12_takePerson_187 ?_
                refine m_tops (fun τ176 eτ176 => ?_)
                have i177 : Inv τ176 := eτ176 ▸ Inv.putR i154 (by decide) (iv_wk b175 (by decide))
                have f178 : Fr MS_X12_takePersonE AS_X12_takePersonE σ τ176 := eτ176 ▸ Fr.put (f155) (Or.inr (by decide))
                have v179 : CP (gV σ 23 0 152).toInt τ176 := v156.put eτ176 (Or.inr (fun q hq => by omega))
                have v180 : TpM τ176 T N := v157.put eτ176 (Or.inl (by decide)) (by decide)
                have v181 : CQ (gV σ 23 0 152).toInt.toNat τ176 := v158.put eτ176 (Or.inl (by decide)) (Or.inr (by omega))
                refine m_aload_n C dX12_takePerson_188 rfl rfl ?_
                clear q160 q162 q164 q166 q168 q170 q172
                have a182 : gV τ176 22 0 6 = (gV τ 22 0 6) := (show gV τ176 22 0 6 = (gV τ 22 0 6) from gV_put eτ176 a159)
                have q183 : (gV τ176 22 0 6).toInt = (gV τ 22 0 6).toInt := congrArg Int32.toInt a182
                have a184 : gV τ176 23 0 150 = (gV τ 23 0 150) := (show gV τ176 23 0 150 = (gV τ 23 0 150) from gV_put eτ176 a161)
                have q185 : (gV τ176 23 0 150).toInt = (gV τ 23 0 150).toInt := congrArg Int32.toInt a184
                have a186 : gV τ176 23 0 188 = (gV τ 23 0 188) := (show gV τ176 23 0 188 = (gV τ 23 0 188) from gV_put eτ176 a165)
                have q187 : (gV τ176 23 0 188).toInt = (gV τ 23 0 188).toInt := congrArg Int32.toInt a186
                have a188 : gV τ176 22 0 11 = (gV τ90 22 0 11) := (show gV τ176 22 0 11 = (gV τ90 22 0 11) from gV_put eτ176 a167)
                have q189 : (gV τ176 22 0 11).toInt = (gV τ90 22 0 11).toInt := congrArg Int32.toInt a188
                have a190 : gV τ176 22 0 12 = (gV τ90 22 0 12) := (show gV τ176 22 0 12 = (gV τ90 22 0 12) from gV_put eτ176 a169)
                have q191 : (gV τ176 22 0 12).toInt = (gV τ90 22 0 12).toInt := congrArg Int32.toInt a190
                have a192 : gV τ176 22 0 16 = (gV τ90 22 0 16) := (show gV τ176 22 0 16 = (gV τ90 22 0 16) from gV_put eτ176 a171)
                have q193 : (gV τ176 22 0 16).toInt = (gV τ90 22 0 16).toInt := congrArg Int32.toInt a192
                have a194 : gV τ176 23 0 152 = x174 := (show gV τ176 23 0 152 = x174 from gV_put eτ176 (gV_self _ _ _ _ _))
                have q195 : (gV τ176 23 0 152).toInt = x174.toInt := congrArg Int32.toInt a194
                refine m_callV (n := 0) (ci := 11) (st := []) C (c_X12_takeSignE l G τ176 T N (tE T N (tE T N (tE T N i)))  i177 v180 (fun h => absurd h (by omega)) (by omega)) (by decide) (by decide) rfl rfl rfl q5_15 q5_12 q5_14 q0_32 q1_7 (by decide +kernel) rfl (by decide) (by decide) rfl (Nat.le_of_ble_eq_true rfl) dX12_takePerson_189 ?_
                rintro _ τ196 ⟨rfl, i197, f198, h202⟩
                have g201 : Fr MS_X12_takePersonE AS_X12_takePersonE σ τ196 := Fr.call (f178) f198 (by decide)
                have v203 : CP (gV σ 23 0 152).toInt τ196 := v179.call (fun k => f198.1 23 0 k (by simp) (by decide))
                have v204 : TpM τ196 T N := v180.fr f198 (by decide) (by decide) (by simp) (by decide)
                have u205 : IV (gV τ196 22 0 11) 0 400 := i197.1 22 0 11
                have a206 : gV τ196 22 0 6 = (gV τ 22 0 6) := (show gV τ196 22 0 6 = (gV τ 22 0 6) from (f198.1 22 0 (6) (by decide) (by decide)).trans a182)
                have q207 : (gV τ196 22 0 6).toInt = (gV τ 22 0 6).toInt := congrArg Int32.toInt a206
                have a208 : gV τ196 23 0 150 = (gV τ 23 0 150) := (show gV τ196 23 0 150 = (gV τ 23 0 150) from (f198.1 23 0 (150) (by decide) (by decide)).trans a184)
                have q209 : (gV τ196 23 0 150).toInt = (gV τ 23 0 150).toInt := congrArg Int32.toInt a208
                have a210 : gV τ196 23 0 188 = (gV τ 23 0 188) := (show gV τ196 23 0 188 = (gV τ 23 0 188) from (f198.1 23 0 (188) (by decide) (by decide)).trans a186)
                have q211 : (gV τ196 23 0 188).toInt = (gV τ 23 0 188).toInt := congrArg Int32.toInt a210
                have a212 : gV τ196 23 0 152 = x174 := (show gV τ196 23 0 152 = x174 from (f198.1 23 0 (152) (by decide) (by decide)).trans a194)
                have q213 : (gV τ196 23 0 152).toInt = x174.toInt := congrArg Int32.toInt a212
                rcases h202 with ⟨h202_0, h202_1, h202_2, h202_3⟩ | ⟨h202_0, h202_1, h202_2, h202_3, h202_4⟩ | ⟨h202_0, h202_1, h202_2, h202_3, h202_4, h202_5⟩
                · skip
                  have v214 : CQ (gV σ 23 0 152).toInt.toNat τ196 := v181.call (fun q => by omega) (fun k => f198.1 23 0 k (by simp) (by decide))
                  show MW p l e _ s m args below meth c _ 4 G 0 0 192 [some (.ref (G.1 22 0)), some (.int y1), some (.int z0), some (.int 0)] [] τ196
                  exact m_vret C hr hlk (by decide) (by decide) dX12_takePerson_192 ⟨rfl, i197, g201, (by have qd := per_2 T N st cc i (by omega) (by omega) (by omega); exact Or.inl ⟨by omega, by omega, by omega, by omega, by omega, by omega⟩)⟩
                · skip
                  exfalso; omega
                · skip
                  exfalso; omega
              · first | exact absurd c143 (by decide) | exact absurd (by decide) c143
            · exfalso
              have q : _ := c139
              simp only [ti_nle, ti_nlt, ti_le, ti_lt, ti_eq, ti_ne, Classical.not_not, kt_0] at q
              have q1 := b109; have q2 := kc_0; omega
          · exfalso
            have q : _ := c117
            simp only [ti_nle, ti_nlt, ti_le, ti_lt, ti_eq, ti_ne, Classical.not_not, kt_0] at q
            have q1 := b109; have q2 := kc_0; omega
        · skip
          have b218 : IV x93 (-1) (-1) := ⟨by omega, by omega⟩
          have b219 : IV (gV τ90 22 0 16) 2 2 := ⟨by omega, by omega⟩
          show MW p l e _ s m args below meth c _ 4 G 0 0 86 [some (.ref (G.1 22 0)), some (.int y1), some (.int z0), none] [.int x93, .int x71, .ref (G.1 23 0)] τ90
          refine as_23 C b72 (by decide) rfl dX12_takePerson_86 ?_
          refine m_tops (fun τ220 eτ220 => ?_)
          have i221 : Inv τ220 := eτ220 ▸ Inv.putRo i91 (by omega)
          have f222 : Fr MS_X12_takePersonE AS_X12_takePersonE σ τ220 := eτ220 ▸ Fr.put (g95) (Or.inr (by decide))
          have v223 : CP (gV σ 23 0 152).toInt τ220 := v97.put eτ220 (Or.inr (fun q hq => by omega))
          have v224 : TpM τ220 T N := v98.put eτ220 (Or.inl (by decide)) (by decide)
          refine m_aload_n C dX12_takePerson_87 rfl rfl ?_
          refine g_22_0 C q4_116 dX12_takePerson_88 ?_
          refine m_sipush (v := 167) C dX12_takePerson_91 (by decide) ?_
          refine m_iload_n C dX12_takePerson_94 rfl rfl ?_
          refine m_iadd C dX12_takePerson_95 ?_
          refine m_topi (fun x225 ex225 => ?_)
          have tx225 : x225.toInt = 167 + y1.toInt := by rw [ex225, ti_addv kc_167 b_y1 (by decide), kt_167]
          have b226 : IV x225 167 173 := by rw [ex225]; exact iv_add kc_167 b_y1 (by decide)
          refine m_aload_n C dX12_takePerson_96 rfl rfl ?_
          refine g_22_16 C q4_132 dX12_takePerson_97 ?_
          refine m_eqs (w := (gV τ90 22 0 16)) (show gV τ220 22 0 16 = (gV τ90 22 0 16) from gV_put eτ220 rfl) ?_
          refine m_if_ne (tgt := 113) C dX12_takePerson_100 (by decide) (fun c227 => ?_) (fun c227 => ?_)
          · have f228 : (gV τ90 22 0 16).toInt ≠ 0 := by
              have q : _ := c227
              simp only [ti_nle, ti_nlt, ti_le, ti_lt, ti_eq, ti_ne, Classical.not_not, kt_0] at q
              omega
            refine m_iconst (v := 0) C dX12_takePerson_113 (by decide) ?_
            refine as_23 C b226 (by decide) rfl dX12_takePerson_114 ?_
            refine m_tops (fun τ229 eτ229 => ?_)
            have i230 : Inv τ229 := eτ229 ▸ Inv.putR0 i221 (by omega) kt_0
            have f231 : Fr MS_X12_takePersonE AS_X12_takePersonE σ τ229 := eτ229 ▸ Fr.put (f222) (Or.inr (by decide))
            have v232 : CP (gV σ 23 0 152).toInt τ229 := v223.put eτ229 (Or.inr (fun q hq => by omega))
            have v233 : TpM τ229 T N := v224.put eτ229 (Or.inl (by decide)) (by decide)
            have a234 : gV τ229 22 0 6 = (gV τ 22 0 6) := (show gV τ229 22 0 6 = (gV τ 22 0 6) from gV_put eτ229 (show gV τ220 22 0 6 = (gV τ 22 0 6) from gV_put eτ220 a100))
            have q235 : (gV τ229 22 0 6).toInt = (gV τ 22 0 6).toInt := congrArg Int32.toInt a234
            have a236 : gV τ229 23 0 150 = (gV τ 23 0 150) := (show gV τ229 23 0 150 = (gV τ 23 0 150) from (gV_putn eτ229 (Or.inr (Or.inr (nat_ne b226 (by decide))))).trans (show gV τ220 23 0 150 = (gV τ 23 0 150) from (gV_putn eτ220 (Or.inr (Or.inr (nat_ne b72 (by decide))))).trans a102))
            have q237 : (gV τ229 23 0 150).toInt = (gV τ 23 0 150).toInt := congrArg Int32.toInt a236
            have a238 : gV τ229 23 0 152 = (gV τ 23 0 152) := (show gV τ229 23 0 152 = (gV τ 23 0 152) from (gV_putn eτ229 (Or.inr (Or.inr (nat_ne b226 (by decide))))).trans (show gV τ220 23 0 152 = (gV τ 23 0 152) from (gV_putn eτ220 (Or.inr (Or.inr (nat_ne b72 (by decide))))).trans a104))
            have q239 : (gV τ229 23 0 152).toInt = (gV τ 23 0 152).toInt := congrArg Int32.toInt a238
            have a240 : gV τ229 23 0 188 = (gV τ 23 0 188) := (show gV τ229 23 0 188 = (gV τ 23 0 188) from (gV_putn eτ229 (Or.inr (Or.inr (nat_ne b226 (by decide))))).trans (show gV τ220 23 0 188 = (gV τ 23 0 188) from (gV_putn eτ220 (Or.inr (Or.inr (nat_ne b72 (by decide))))).trans a106))
            have q241 : (gV τ229 23 0 188).toInt = (gV τ 23 0 188).toInt := congrArg Int32.toInt a240
            have a242 : gV τ229 22 0 11 = (gV τ90 22 0 11) := (show gV τ229 22 0 11 = (gV τ90 22 0 11) from gV_put eτ229 (show gV τ220 22 0 11 = (gV τ90 22 0 11) from gV_put eτ220 rfl))
            have q243 : (gV τ229 22 0 11).toInt = (gV τ90 22 0 11).toInt := congrArg Int32.toInt a242
            have a244 : gV τ229 22 0 12 = (gV τ90 22 0 12) := (show gV τ229 22 0 12 = (gV τ90 22 0 12) from gV_put eτ229 (show gV τ220 22 0 12 = (gV τ90 22 0 12) from gV_put eτ220 rfl))
            have q245 : (gV τ229 22 0 12).toInt = (gV τ90 22 0 12).toInt := congrArg Int32.toInt a244
            have a246 : gV τ229 22 0 16 = (gV τ90 22 0 16) := (show gV τ229 22 0 16 = (gV τ90 22 0 16) from gV_put eτ229 (show gV τ220 22 0 16 = (gV τ90 22 0 16) from gV_put eτ220 rfl))
            have q247 : (gV τ229 22 0 16).toInt = (gV τ90 22 0 16).toInt := congrArg Int32.toInt a246
            have v248 : CQ (gV σ 23 0 152).toInt.toNat τ229 := by
              intro q
              have q1 : gV τ229 23 0 (x225.toInt.toNat) = 0 := (show gV τ229 23 0 (x225.toInt.toNat) = 0 from gV_put eτ229 (gV_self _ _ _ _ _))
              rw [show 167 + (gV σ 23 0 152).toInt.toNat = (x225.toInt.toNat) by omega, q1]
              omega
            refine m_aload_n C dX12_takePerson_115 rfl rfl ?_
            refine g_22_16 C q4_132 dX12_takePerson_116 ?_
            refine m_eqs (w := (gV τ90 22 0 16)) a246 ?_
            refine m_if_ne (tgt := 142) C dX12_takePerson_119 (by decide) (fun c249 => ?_) (fun c249 => ?_)
            · have f250 : (gV τ90 22 0 16).toInt ≠ 0 := by
                have q : _ := c249
                simp only [ti_nle, ti_nlt, ti_le, ti_lt, ti_eq, ti_ne, Classical.not_not, kt_0] at q
                omega
              refine m_iconst (v := 0) C dX12_takePerson_142 (by decide) ?_
              refine m_istore_n (L1 := [some (.ref (G.1 22 0)), some (.int y1), some (.int z0), some (.int 0)]) C dX12_takePerson_143 rfl (by decide) rfl rfl ?_
              refine m_aload_n C dX12_takePerson_144 rfl rfl ?_
              refine g_22_0 C q4_116 dX12_takePerson_145 ?_
              refine m_sipush (v := 174) C dX12_takePerson_148 (by decide) ?_
              refine m_iload_n C dX12_takePerson_151 rfl rfl ?_
              refine m_iadd C dX12_takePerson_152 ?_
              refine m_topi (fun x251 ex251 => ?_)
              have tx251 : x251.toInt = 174 + y1.toInt := by rw [ex251, ti_addv kc_174 b_y1 (by decide), kt_174]
              have b252 : IV x251 174 180 := by rw [ex251]; exact iv_add kc_174 b_y1 (by decide)
              refine m_iload_n C dX12_takePerson_153 rfl rfl ?_
              refine m_bipush (v := 99) C dX12_takePerson_154 (by decide) ?_
              refine m_icmp_ne (tgt := 163) C dX12_takePerson_156 (by decide) (fun c253 => ?_) (fun c253 => ?_)
              · have f254 : 0 ≠ 99 := by
                  have q : _ := c253
                  simp only [ti_nle, ti_nlt, ti_le, ti_lt, ti_eq, ti_ne, Classical.not_not, kt_0, kt_99] at q
                  omega
                refine m_iload_n C dX12_takePerson_163 rfl rfl ?_
                refine as_23 C b252 (by decide) rfl dX12_takePerson_164 ?_
                refine m_tops (fun τ255 eτ255 => ?_)
                have i256 : Inv τ255 := eτ255 ▸ Inv.putR0 i230 (by omega) kt_0
                have f257 : Fr MS_X12_takePersonE AS_X12_takePersonE σ τ255 := eτ255 ▸ Fr.put (f231) (Or.inr (by decide))
                have v258 : CP (gV σ 23 0 152).toInt τ255 := v232.put eτ255 (Or.inr (fun q hq => by omega))
                have v259 : TpM τ255 T N := v233.put eτ255 (Or.inl (by decide)) (by decide)
                have v260 : CQ (gV σ 23 0 152).toInt.toNat τ255 := v248.put eτ255 (Or.inl (by decide)) (Or.inr (by omega))
                refine m_aload_n C dX12_takePerson_165 rfl rfl ?_
                refine g_22_0 C q4_116 dX12_takePerson_166 ?_
                refine m_sipush (v := 181) C dX12_takePerson_169 (by decide) ?_
                refine m_iload_n C dX12_takePerson_172 rfl rfl ?_
                refine m_iadd C dX12_takePerson_173 ?_
                refine m_topi (fun x261 ex261 => ?_)
                have tx261 : x261.toInt = 181 + y1.toInt := by rw [ex261, ti_addv kc_181 b_y1 (by decide), kt_181]
                have b262 : IV x261 181 187 := by rw [ex261]; exact iv_add kc_181 b_y1 (by decide)
                refine m_iconst (v := 0) C dX12_takePerson_174 (by decide) ?_
                refine as_23 C b262 (by decide) rfl dX12_takePerson_175 ?_
                refine m_tops (fun τ263 eτ263 => ?_)
                have i264 : Inv τ263 := eτ263 ▸ Inv.putR0 i256 (by omega) kt_0
                have f265 : Fr MS_X12_takePersonE AS_X12_takePersonE σ τ263 := eτ263 ▸ Fr.put (f257) (Or.inr (by decide))
                have v266 : CP (gV σ 23 0 152).toInt τ263 := v258.put eτ263 (Or.inr (fun q hq => by omega))
                have v267 : TpM τ263 T N := v259.put eτ263 (Or.inl (by decide)) (by decide)
                have v268 : CQ (gV σ 23 0 152).toInt.toNat τ263 := v260.put eτ263 (Or.inl (by decide)) (Or.inr (by omega))
                refine m_aload_n C dX12_takePerson_176 rfl rfl ?_
                refine g_22_0 C q4_116 dX12_takePerson_177 ?_
                refine m_sipush (v := 152) C dX12_takePerson_180 (by decide) ?_
                refine m_dup2 C dX12_takePerson_183 rfl rfl ?_
                refine al_23 C kc_152 (by decide) kn_152 dX12_takePerson_184 ?_
                refine m_eqs (w := (gV τ 23 0 152)) (show gV τ263 23 0 152 = (gV τ 23 0 152) from (gV_putn eτ263 (Or.inr (Or.inr (nat_ne b262 (by decide))))).trans (show gV τ255 23 0 152 = (gV τ 23 0 152) from (gV_putn eτ255 (Or.inr (Or.inr (nat_ne b252 (by decide))))).trans a238)) ?_
                refine m_iconst (v := 1) C dX12_takePerson_185 (by decide) ?_
                clear q235 q237 q239 q241 q243 q245 q247
                have a269 : gV τ263 22 0 6 = (gV τ 22 0 6) := (show gV τ263 22 0 6 = (gV τ 22 0 6) from gV_put eτ263 (show gV τ255 22 0 6 = (gV τ 22 0 6) from gV_put eτ255 a234))
                have q270 : (gV τ263 22 0 6).toInt = (gV τ 22 0 6).toInt := congrArg Int32.toInt a269
                have a271 : gV τ263 23 0 150 = (gV τ 23 0 150) := (show gV τ263 23 0 150 = (gV τ 23 0 150) from (gV_putn eτ263 (Or.inr (Or.inr (nat_ne b262 (by decide))))).trans (show gV τ255 23 0 150 = (gV τ 23 0 150) from (gV_putn eτ255 (Or.inr (Or.inr (nat_ne b252 (by decide))))).trans a236))
                have q272 : (gV τ263 23 0 150).toInt = (gV τ 23 0 150).toInt := congrArg Int32.toInt a271
                have a273 : gV τ263 23 0 152 = (gV τ 23 0 152) := (show gV τ263 23 0 152 = (gV τ 23 0 152) from (gV_putn eτ263 (Or.inr (Or.inr (nat_ne b262 (by decide))))).trans (show gV τ255 23 0 152 = (gV τ 23 0 152) from (gV_putn eτ255 (Or.inr (Or.inr (nat_ne b252 (by decide))))).trans a238))
                have q274 : (gV τ263 23 0 152).toInt = (gV τ 23 0 152).toInt := congrArg Int32.toInt a273
                have a275 : gV τ263 23 0 188 = (gV τ 23 0 188) := (show gV τ263 23 0 188 = (gV τ 23 0 188) from (gV_putn eτ263 (Or.inr (Or.inr (nat_ne b262 (by decide))))).trans (show gV τ255 23 0 188 = (gV τ 23 0 188) from (gV_putn eτ255 (Or.inr (Or.inr (nat_ne b252 (by decide))))).trans a240))
                have q276 : (gV τ263 23 0 188).toInt = (gV τ 23 0 188).toInt := congrArg Int32.toInt a275
                have a277 : gV τ263 22 0 11 = (gV τ90 22 0 11) := (show gV τ263 22 0 11 = (gV τ90 22 0 11) from gV_put eτ263 (show gV τ255 22 0 11 = (gV τ90 22 0 11) from gV_put eτ255 a242))
                have q278 : (gV τ263 22 0 11).toInt = (gV τ90 22 0 11).toInt := congrArg Int32.toInt a277
                have a279 : gV τ263 22 0 12 = (gV τ90 22 0 12) := (show gV τ263 22 0 12 = (gV τ90 22 0 12) from gV_put eτ263 (show gV τ255 22 0 12 = (gV τ90 22 0 12) from gV_put eτ255 a244))
                have q280 : (gV τ263 22 0 12).toInt = (gV τ90 22 0 12).toInt := congrArg Int32.toInt a279
                have a281 : gV τ263 22 0 16 = (gV τ90 22 0 16) := (show gV τ263 22 0 16 = (gV τ90 22 0 16) from gV_put eτ263 (show gV τ255 22 0 16 = (gV τ90 22 0 16) from gV_put eτ255 a246))
                have q282 : (gV τ263 22 0 16).toInt = (gV τ90 22 0 16).toInt := congrArg Int32.toInt a281
                have b283 : IV (gV τ 23 0 152) 0 6 := ⟨by have q1 := u3; omega, by have q1 := u3; omega⟩
                refine m_iadd C dX12_takePerson_186 ?_
                refine m_topi (fun x284 ex284 => ?_)
                have tx284 : x284.toInt = (gV τ 23 0 152).toInt + 1 := by rw [ex284, ti_addv b283 kc_1 (by decide), kt_1]
                have b285 : IV x284 1 7 := by rw [ex284]; exact iv_add b283 kc_1 (by decide)
                refine as_23 C kc_152 (by decide) kn_152 dX12_takePerson_187 ?_
                refine m_tops (fun τ286 eτ286 => ?_)
                have i287 : Inv τ286 := eτ286 ▸ Inv.putR i264 (by decide) (iv_wk b285 (by decide))
                have f288 : Fr MS_X12_takePersonE AS_X12_takePersonE σ τ286 := eτ286 ▸ Fr.put (f265) (Or.inr (by decide))
                have v289 : CP (gV σ 23 0 152).toInt τ286 := v266.put eτ286 (Or.inr (fun q hq => by omega))
                have v290 : TpM τ286 T N := v267.put eτ286 (Or.inl (by decide)) (by decide)
                have v291 : CQ (gV σ 23 0 152).toInt.toNat τ286 := v268.put eτ286 (Or.inl (by decide)) (Or.inr (by omega))
                refine m_aload_n C dX12_takePerson_188 rfl rfl ?_
                clear q270 q272 q274 q276 q278 q280 q282
                have a292 : gV τ286 22 0 6 = (gV τ 22 0 6) := (show gV τ286 22 0 6 = (gV τ 22 0 6) from gV_put eτ286 a269)
                have q293 : (gV τ286 22 0 6).toInt = (gV τ 22 0 6).toInt := congrArg Int32.toInt a292
                have a294 : gV τ286 23 0 150 = (gV τ 23 0 150) := (show gV τ286 23 0 150 = (gV τ 23 0 150) from gV_put eτ286 a271)
                have q295 : (gV τ286 23 0 150).toInt = (gV τ 23 0 150).toInt := congrArg Int32.toInt a294
                have a296 : gV τ286 23 0 188 = (gV τ 23 0 188) := (show gV τ286 23 0 188 = (gV τ 23 0 188) from gV_put eτ286 a275)
                have q297 : (gV τ286 23 0 188).toInt = (gV τ 23 0 188).toInt := congrArg Int32.toInt a296
                have a298 : gV τ286 22 0 11 = (gV τ90 22 0 11) := (show gV τ286 22 0 11 = (gV τ90 22 0 11) from gV_put eτ286 a277)
                have q299 : (gV τ286 22 0 11).toInt = (gV τ90 22 0 11).toInt := congrArg Int32.toInt a298
                have a300 : gV τ286 22 0 12 = (gV τ90 22 0 12) := (show gV τ286 22 0 12 = (gV τ90 22 0 12) from gV_put eτ286 a279)
                have q301 : (gV τ286 22 0 12).toInt = (gV τ90 22 0 12).toInt := congrArg Int32.toInt a300
                have a302 : gV τ286 22 0 16 = (gV τ90 22 0 16) := (show gV τ286 22 0 16 = (gV τ90 22 0 16) from gV_put eτ286 a281)
                have q303 : (gV τ286 22 0 16).toInt = (gV τ90 22 0 16).toInt := congrArg Int32.toInt a302
                have a304 : gV τ286 23 0 152 = x284 := (show gV τ286 23 0 152 = x284 from gV_put eτ286 (gV_self _ _ _ _ _))
                have q305 : (gV τ286 23 0 152).toInt = x284.toInt := congrArg Int32.toInt a304
                refine m_callV (n := 0) (ci := 11) (st := []) C (c_X12_takeSignE l G τ286 T N (tE T N (tE T N (tE T N i)))  i287 v290 (fun h => absurd h (by omega)) (by omega)) (by decide) (by decide) rfl rfl rfl q5_15 q5_12 q5_14 q0_32 q1_7 (by decide +kernel) rfl (by decide) (by decide) rfl (Nat.le_of_ble_eq_true rfl) dX12_takePerson_189 ?_
                rintro _ τ306 ⟨rfl, i307, f308, h312⟩
                have g311 : Fr MS_X12_takePersonE AS_X12_takePersonE σ τ306 := Fr.call (f288) f308 (by decide)
                have v313 : CP (gV σ 23 0 152).toInt τ306 := v289.call (fun k => f308.1 23 0 k (by simp) (by decide))
                have v314 : TpM τ306 T N := v290.fr f308 (by decide) (by decide) (by simp) (by decide)
                have u315 : IV (gV τ306 22 0 11) 0 400 := i307.1 22 0 11
                have a316 : gV τ306 22 0 6 = (gV τ 22 0 6) := (show gV τ306 22 0 6 = (gV τ 22 0 6) from (f308.1 22 0 (6) (by decide) (by decide)).trans a292)
                have q317 : (gV τ306 22 0 6).toInt = (gV τ 22 0 6).toInt := congrArg Int32.toInt a316
                have a318 : gV τ306 23 0 150 = (gV τ 23 0 150) := (show gV τ306 23 0 150 = (gV τ 23 0 150) from (f308.1 23 0 (150) (by decide) (by decide)).trans a294)
                have q319 : (gV τ306 23 0 150).toInt = (gV τ 23 0 150).toInt := congrArg Int32.toInt a318
                have a320 : gV τ306 23 0 188 = (gV τ 23 0 188) := (show gV τ306 23 0 188 = (gV τ 23 0 188) from (f308.1 23 0 (188) (by decide) (by decide)).trans a296)
                have q321 : (gV τ306 23 0 188).toInt = (gV τ 23 0 188).toInt := congrArg Int32.toInt a320
                have a322 : gV τ306 23 0 152 = x284 := (show gV τ306 23 0 152 = x284 from (f308.1 23 0 (152) (by decide) (by decide)).trans a304)
                have q323 : (gV τ306 23 0 152).toInt = x284.toInt := congrArg Int32.toInt a322
                rcases h312 with ⟨h312_0, h312_1, h312_2, h312_3⟩ | ⟨h312_0, h312_1, h312_2, h312_3, h312_4⟩ | ⟨h312_0, h312_1, h312_2, h312_3, h312_4, h312_5⟩
                · skip
                  have v324 : CQ (gV σ 23 0 152).toInt.toNat τ306 := v291.call (fun q => by omega) (fun k => f308.1 23 0 k (by simp) (by decide))
                  show MW p l e _ s m args below meth c _ 4 G 0 0 192 [some (.ref (G.1 22 0)), some (.int y1), some (.int z0), some (.int 0)] [] τ306
                  exact m_vret C hr hlk (by decide) (by decide) dX12_takePerson_192 ⟨rfl, i307, g311, (by have qd := per_3 T N st cc i (by omega) (by omega) (by omega) (by omega); exact Or.inl ⟨by omega, by omega, by omega, by omega, by omega, by omega⟩)⟩
                · skip
                  exfalso; omega
                · skip
                  exfalso; omega
              · first | exact absurd c253 (by decide) | exact absurd (by decide) c253
            · exfalso
              have q : _ := c249
              simp only [ti_nle, ti_nlt, ti_le, ti_lt, ti_eq, ti_ne, Classical.not_not, kt_0] at q
              have q1 := b219; have q2 := kc_0; omega
          · exfalso
            have q : _ := c227
            simp only [ti_nle, ti_nlt, ti_le, ti_lt, ti_eq, ti_ne, Classical.not_not, kt_0] at q
            have q1 := b219; have q2 := kc_0; omega
        · skip
          have q328 : 1 ≤ tV T (tE T N (tE T N i)) ∧ tV T (tE T N (tE T N i)) ≤ 20 := by omega
          clear h96_1
          have v329 : CuM T N (tE T N (tE T N (tE T N i))) τ90 := ⟨h96_4, h96_5⟩
          clear h96_4
          have b330 : IV (gV τ90 22 0 16) 0 0 := ⟨by omega, by omega⟩
          show MW p l e _ s m args below meth c _ 4 G 0 0 86 [some (.ref (G.1 22 0)), some (.int y1), some (.int z0), none] [.int x93, .int x71, .ref (G.1 23 0)] τ90
          refine as_23 C b72 (by decide) rfl dX12_takePerson_86 ?_
          refine m_tops (fun τ331 eτ331 => ?_)
          have i332 : Inv τ331 := eτ331 ▸ Inv.putRo i91 (by omega)
          have f333 : Fr MS_X12_takePersonE AS_X12_takePersonE σ τ331 := eτ331 ▸ Fr.put (g95) (Or.inr (by decide))
          have v334 : CP (gV σ 23 0 152).toInt τ331 := v97.put eτ331 (Or.inr (fun q hq => by omega))
          have v335 : TpM τ331 T N := v98.put eτ331 (Or.inl (by decide)) (by decide)
          have v336 : LW T N (tE T N (tE T N (tE T N i))) τ331.2.2.1 := by rw [eτ331]; exact h96_6
          have v337 : CuM T N (tE T N (tE T N (tE T N i))) τ331 := CuM.put v329 eτ331 (Or.inl (by decide))
          refine m_aload_n C dX12_takePerson_87 rfl rfl ?_
          refine g_22_0 C q4_116 dX12_takePerson_88 ?_
          refine m_sipush (v := 167) C dX12_takePerson_91 (by decide) ?_
          refine m_iload_n C dX12_takePerson_94 rfl rfl ?_
          refine m_iadd C dX12_takePerson_95 ?_
          refine m_topi (fun x338 ex338 => ?_)
          have tx338 : x338.toInt = 167 + y1.toInt := by rw [ex338, ti_addv kc_167 b_y1 (by decide), kt_167]
          have b339 : IV x338 167 173 := by rw [ex338]; exact iv_add kc_167 b_y1 (by decide)
          refine m_aload_n C dX12_takePerson_96 rfl rfl ?_
          refine g_22_16 C q4_132 dX12_takePerson_97 ?_
          refine m_eqs (w := (gV τ90 22 0 16)) (show gV τ331 22 0 16 = (gV τ90 22 0 16) from gV_put eτ331 rfl) ?_
          refine m_if_ne (tgt := 113) C dX12_takePerson_100 (by decide) (fun c340 => ?_) (fun c340 => ?_)
          · exfalso
            have q : _ := c340
            simp only [ti_nle, ti_nlt, ti_le, ti_lt, ti_eq, ti_ne, Classical.not_not, kt_0] at q
            have q1 := b330; have q2 := kc_0; omega
          · have f342 : (gV τ90 22 0 16).toInt = 0 := by
              have q : _ := c340
              simp only [ti_nle, ti_nlt, ti_le, ti_lt, ti_eq, ti_ne, Classical.not_not, kt_0] at q
              omega
            refine m_aload_n C dX12_takePerson_103 rfl rfl ?_
            refine m_iconst (v := 1) C dX12_takePerson_104 (by decide) ?_
            refine m_iconst (v := 4) C dX12_takePerson_105 (by decide) ?_
            refine m_iconst (v := 1) C dX12_takePerson_106 (by decide) ?_
            have a343 : gV τ331 22 0 6 = (gV τ 22 0 6) := (show gV τ331 22 0 6 = (gV τ 22 0 6) from gV_put eτ331 a100)
            have q344 : (gV τ331 22 0 6).toInt = (gV τ 22 0 6).toInt := congrArg Int32.toInt a343
            have a345 : gV τ331 23 0 150 = (gV τ 23 0 150) := (show gV τ331 23 0 150 = (gV τ 23 0 150) from (gV_putn eτ331 (Or.inr (Or.inr (nat_ne b72 (by decide))))).trans a102)
            have q346 : (gV τ331 23 0 150).toInt = (gV τ 23 0 150).toInt := congrArg Int32.toInt a345
            have a347 : gV τ331 23 0 152 = (gV τ 23 0 152) := (show gV τ331 23 0 152 = (gV τ 23 0 152) from (gV_putn eτ331 (Or.inr (Or.inr (nat_ne b72 (by decide))))).trans a104)
            have q348 : (gV τ331 23 0 152).toInt = (gV τ 23 0 152).toInt := congrArg Int32.toInt a347
            have a349 : gV τ331 23 0 188 = (gV τ 23 0 188) := (show gV τ331 23 0 188 = (gV τ 23 0 188) from (gV_putn eτ331 (Or.inr (Or.inr (nat_ne b72 (by decide))))).trans a106)
            have q350 : (gV τ331 23 0 188).toInt = (gV τ 23 0 188).toInt := congrArg Int32.toInt a349
            have a351 : gV τ331 22 0 11 = (gV τ90 22 0 11) := (show gV τ331 22 0 11 = (gV τ90 22 0 11) from gV_put eτ331 rfl)
            have q352 : (gV τ331 22 0 11).toInt = (gV τ90 22 0 11).toInt := congrArg Int32.toInt a351
            have a353 : gV τ331 22 0 12 = (gV τ90 22 0 12) := (show gV τ331 22 0 12 = (gV τ90 22 0 12) from gV_put eτ331 rfl)
            have q354 : (gV τ331 22 0 12).toInt = (gV τ90 22 0 12).toInt := congrArg Int32.toInt a353
            have a355 : gV τ331 22 0 16 = (gV τ90 22 0 16) := (show gV τ331 22 0 16 = (gV τ90 22 0 16) from gV_put eτ331 rfl)
            have q356 : (gV τ331 22 0 16).toInt = (gV τ90 22 0 16).toInt := congrArg Int32.toInt a355
            have q357 := kt_1
            have q358 := kt_4
            have q359 := kt_1
            refine m_callV (n := 3) (ci := 11) (st := [.int x338, .ref (G.1 23 0)]) C (c_X12_takeNumberE l G τ331 T N (tE T N (tE T N (tE T N i))) (1) (4) (1) i332 v335 v337.1 (by omega)) (by decide) (by decide) rfl rfl rfl q5_7 q5_4 q5_6 q0_30 q1_7 (by decide +kernel) rfl (by decide) (by decide) rfl (Nat.le_of_ble_eq_true rfl) dX12_takePerson_107 ?_
            rintro _ τ360 ⟨x363, rfl, i361, f362, b364, h366⟩
            have g365 : Fr MS_X12_takePersonE AS_X12_takePersonE σ τ360 := Fr.call (f333) f362 (by decide)
            have v367 : CP (gV σ 23 0 152).toInt τ360 := v334.call (fun k => f362.1 23 0 k (by simp) (by decide))
            have v368 : TpM τ360 T N := v335.fr f362 (by decide) (by decide) (by simp) (by decide)
            have u369 : IV (gV τ360 22 0 11) 0 400 := i361.1 22 0 11
            have a370 : gV τ360 22 0 6 = (gV τ 22 0 6) := (show gV τ360 22 0 6 = (gV τ 22 0 6) from (f362.1 22 0 (6) (by decide) (by decide)).trans a343)
            have q371 : (gV τ360 22 0 6).toInt = (gV τ 22 0 6).toInt := congrArg Int32.toInt a370
            have a372 : gV τ360 23 0 150 = (gV τ 23 0 150) := (show gV τ360 23 0 150 = (gV τ 23 0 150) from (f362.1 23 0 (150) (by decide) (by decide)).trans a345)
            have q373 : (gV τ360 23 0 150).toInt = (gV τ 23 0 150).toInt := congrArg Int32.toInt a372
            have a374 : gV τ360 23 0 152 = (gV τ 23 0 152) := (show gV τ360 23 0 152 = (gV τ 23 0 152) from (f362.1 23 0 (152) (by decide) (by decide)).trans a347)
            have q375 : (gV τ360 23 0 152).toInt = (gV τ 23 0 152).toInt := congrArg Int32.toInt a374
            have a376 : gV τ360 23 0 188 = (gV τ 23 0 188) := (show gV τ360 23 0 188 = (gV τ 23 0 188) from (f362.1 23 0 (188) (by decide) (by decide)).trans a349)
            have q377 : (gV τ360 23 0 188).toInt = (gV τ 23 0 188).toInt := congrArg Int32.toInt a376
            rcases h366 with ⟨h366_0, h366_1, h366_2, h366_3, h366_4⟩ | ⟨h366_0, h366_1, h366_2, h366_3, h366_4, h366_5, h366_6⟩ | ⟨h366_0, h366_1, h366_2, h366_3, h366_4, h366_5, h366_6⟩
            · skip
              have b378 : IV x363 (-1) (-1) := ⟨by omega, by omega⟩
              have b379 : IV (gV τ360 22 0 16) 1 1 := ⟨by omega, by omega⟩
              show MW p l e _ s m args below meth c _ 4 G 0 0 110 [some (.ref (G.1 22 0)), some (.int y1), some (.int z0), none] [.int x363, .int x338, .ref (G.1 23 0)] τ360
              refine m_goto (tgt := 114) C dX12_takePerson_110 (by decide) ?_
              refine as_23 C b339 (by decide) rfl dX12_takePerson_114 ?_
              refine m_tops (fun τ380 eτ380 => ?_)
              have i381 : Inv τ380 := eτ380 ▸ Inv.putRo i361 (by omega)
              have f382 : Fr MS_X12_takePersonE AS_X12_takePersonE σ τ380 := eτ380 ▸ Fr.put (g365) (Or.inr (by decide))
              have v383 : CP (gV σ 23 0 152).toInt τ380 := v367.put eτ380 (Or.inr (fun q hq => by omega))
              have v384 : TpM τ380 T N := v368.put eτ380 (Or.inl (by decide)) (by decide)
              have a385 : gV τ380 22 0 6 = (gV τ 22 0 6) := (show gV τ380 22 0 6 = (gV τ 22 0 6) from gV_put eτ380 a370)
              have q386 : (gV τ380 22 0 6).toInt = (gV τ 22 0 6).toInt := congrArg Int32.toInt a385
              have a387 : gV τ380 23 0 150 = (gV τ 23 0 150) := (show gV τ380 23 0 150 = (gV τ 23 0 150) from (gV_putn eτ380 (Or.inr (Or.inr (nat_ne b339 (by decide))))).trans a372)
              have q388 : (gV τ380 23 0 150).toInt = (gV τ 23 0 150).toInt := congrArg Int32.toInt a387
              have a389 : gV τ380 23 0 152 = (gV τ 23 0 152) := (show gV τ380 23 0 152 = (gV τ 23 0 152) from (gV_putn eτ380 (Or.inr (Or.inr (nat_ne b339 (by decide))))).trans a374)
              have q390 : (gV τ380 23 0 152).toInt = (gV τ 23 0 152).toInt := congrArg Int32.toInt a389
              have a391 : gV τ380 23 0 188 = (gV τ 23 0 188) := (show gV τ380 23 0 188 = (gV τ 23 0 188) from (gV_putn eτ380 (Or.inr (Or.inr (nat_ne b339 (by decide))))).trans a376)
              have q392 : (gV τ380 23 0 188).toInt = (gV τ 23 0 188).toInt := congrArg Int32.toInt a391
              have a393 : gV τ380 22 0 11 = (gV τ360 22 0 11) := (show gV τ380 22 0 11 = (gV τ360 22 0 11) from gV_put eτ380 rfl)
              have q394 : (gV τ380 22 0 11).toInt = (gV τ360 22 0 11).toInt := congrArg Int32.toInt a393
              have a395 : gV τ380 22 0 12 = (gV τ360 22 0 12) := (show gV τ380 22 0 12 = (gV τ360 22 0 12) from gV_put eτ380 rfl)
              have q396 : (gV τ380 22 0 12).toInt = (gV τ360 22 0 12).toInt := congrArg Int32.toInt a395
              have a397 : gV τ380 22 0 16 = (gV τ360 22 0 16) := (show gV τ380 22 0 16 = (gV τ360 22 0 16) from gV_put eτ380 rfl)
              have q398 : (gV τ380 22 0 16).toInt = (gV τ360 22 0 16).toInt := congrArg Int32.toInt a397
              have v399 : CQ (gV σ 23 0 152).toInt.toNat τ380 := by
                intro q
                have q1 : gV τ380 23 0 (x338.toInt.toNat) = x363 := (show gV τ380 23 0 (x338.toInt.toNat) = x363 from gV_put eτ380 (gV_self _ _ _ _ _))
                rw [show 167 + (gV σ 23 0 152).toInt.toNat = (x338.toInt.toNat) by omega, q1]
                omega
              refine m_aload_n C dX12_takePerson_115 rfl rfl ?_
              refine g_22_16 C q4_132 dX12_takePerson_116 ?_
              refine m_eqs (w := (gV τ360 22 0 16)) a397 ?_
              refine m_if_ne (tgt := 142) C dX12_takePerson_119 (by decide) (fun c400 => ?_) (fun c400 => ?_)
              · have f401 : (gV τ360 22 0 16).toInt ≠ 0 := by
                  have q : _ := c400
                  simp only [ti_nle, ti_nlt, ti_le, ti_lt, ti_eq, ti_ne, Classical.not_not, kt_0] at q
                  omega
                refine m_iconst (v := 0) C dX12_takePerson_142 (by decide) ?_
                refine m_istore_n (L1 := [some (.ref (G.1 22 0)), some (.int y1), some (.int z0), some (.int 0)]) C dX12_takePerson_143 rfl (by decide) rfl rfl ?_
                refine m_aload_n C dX12_takePerson_144 rfl rfl ?_
                refine g_22_0 C q4_116 dX12_takePerson_145 ?_
                refine m_sipush (v := 174) C dX12_takePerson_148 (by decide) ?_
                refine m_iload_n C dX12_takePerson_151 rfl rfl ?_
                refine m_iadd C dX12_takePerson_152 ?_
                refine m_topi (fun x402 ex402 => ?_)
                have tx402 : x402.toInt = 174 + y1.toInt := by rw [ex402, ti_addv kc_174 b_y1 (by decide), kt_174]
                have b403 : IV x402 174 180 := by rw [ex402]; exact iv_add kc_174 b_y1 (by decide)
                refine m_iload_n C dX12_takePerson_153 rfl rfl ?_
                refine m_bipush (v := 99) C dX12_takePerson_154 (by decide) ?_
                refine m_icmp_ne (tgt := 163) C dX12_takePerson_156 (by decide) (fun c404 => ?_) (fun c404 => ?_)
                · have f405 : 0 ≠ 99 := by
                    have q : _ := c404
                    simp only [ti_nle, ti_nlt, ti_le, ti_lt, ti_eq, ti_ne, Classical.not_not, kt_0, kt_99] at q
                    omega
                  refine m_iload_n C dX12_takePerson_163 rfl rfl ?_
                  refine as_23 C b403 (by decide) rfl dX12_takePerson_164 ?_
                  refine m_tops (fun τ406 eτ406 => ?_)
                  have i407 : Inv τ406 := eτ406 ▸ Inv.putR0 i381 (by omega) kt_0
                  have f408 : Fr MS_X12_takePersonE AS_X12_takePersonE σ τ406 := eτ406 ▸ Fr.put (f382) (Or.inr (by decide))
                  have v409 : CP (gV σ 23 0 152).toInt τ406 := v383.put eτ406 (Or.inr (fun q hq => by omega))
                  have v410 : TpM τ406 T N := v384.put eτ406 (Or.inl (by decide)) (by decide)
                  have v411 : CQ (gV σ 23 0 152).toInt.toNat τ406 := v399.put eτ406 (Or.inl (by decide)) (Or.inr (by omega))
                  refine m_aload_n C dX12_takePerson_165 rfl rfl ?_
                  refine g_22_0 C q4_116 dX12_takePerson_166 ?_
                  refine m_sipush (v := 181) C dX12_takePerson_169 (by decide) ?_
                  refine m_iload_n C dX12_takePerson_172 rfl rfl ?_
                  refine m_iadd C dX12_takePerson_173 ?_
                  refine m_topi (fun x412 ex412 => ?_)
                  have tx412 : x412.toInt = 181 + y1.toInt := by rw [ex412, ti_addv kc_181 b_y1 (by decide), kt_181]
                  have b413 : IV x412 181 187 := by rw [ex412]; exact iv_add kc_181 b_y1 (by decide)
                  refine m_iconst (v := 0) C dX12_takePerson_174 (by decide) ?_
                  refine as_23 C b413 (by decide) rfl dX12_takePerson_175 ?_
                  refine m_tops (fun τ414 eτ414 => ?_)
                  have i415 : Inv τ414 := eτ414 ▸ Inv.putR0 i407 (by omega) kt_0
                  have f416 : Fr MS_X12_takePersonE AS_X12_takePersonE σ τ414 := eτ414 ▸ Fr.put (f408) (Or.inr (by decide))
                  have v417 : CP (gV σ 23 0 152).toInt τ414 := v409.put eτ414 (Or.inr (fun q hq => by omega))
                  have v418 : TpM τ414 T N := v410.put eτ414 (Or.inl (by decide)) (by decide)
                  have v419 : CQ (gV σ 23 0 152).toInt.toNat τ414 := v411.put eτ414 (Or.inl (by decide)) (Or.inr (by omega))
                  refine m_aload_n C dX12_takePerson_176 rfl rfl ?_
                  refine g_22_0 C q4_116 dX12_takePerson_177 ?_
                  refine m_sipush (v := 152) C dX12_takePerson_180 (by decide) ?_
                  refine m_dup2 C dX12_takePerson_183 rfl rfl ?_
                  refine al_23 C kc_152 (by decide) kn_152 dX12_takePerson_184 ?_
                  refine m_eqs (w := (gV τ 23 0 152)) (show gV τ414 23 0 152 = (gV τ 23 0 152) from (gV_putn eτ414 (Or.inr (Or.inr (nat_ne b413 (by decide))))).trans (show gV τ406 23 0 152 = (gV τ 23 0 152) from (gV_putn eτ406 (Or.inr (Or.inr (nat_ne b403 (by decide))))).trans a389)) ?_
                  refine m_iconst (v := 1) C dX12_takePerson_185 (by decide) ?_
                  clear q386 q388 q390 q392 q394 q396 q398
                  have a420 : gV τ414 22 0 6 = (gV τ 22 0 6) := (show gV τ414 22 0 6 = (gV τ 22 0 6) from gV_put eτ414 (show gV τ406 22 0 6 = (gV τ 22 0 6) from gV_put eτ406 a385))
                  have q421 : (gV τ414 22 0 6).toInt = (gV τ 22 0 6).toInt := congrArg Int32.toInt a420
                  have a422 : gV τ414 23 0 150 = (gV τ 23 0 150) := (show gV τ414 23 0 150 = (gV τ 23 0 150) from (gV_putn eτ414 (Or.inr (Or.inr (nat_ne b413 (by decide))))).trans (show gV τ406 23 0 150 = (gV τ 23 0 150) from (gV_putn eτ406 (Or.inr (Or.inr (nat_ne b403 (by decide))))).trans a387))
                  have q423 : (gV τ414 23 0 150).toInt = (gV τ 23 0 150).toInt := congrArg Int32.toInt a422
                  have a424 : gV τ414 23 0 152 = (gV τ 23 0 152) := (show gV τ414 23 0 152 = (gV τ 23 0 152) from (gV_putn eτ414 (Or.inr (Or.inr (nat_ne b413 (by decide))))).trans (show gV τ406 23 0 152 = (gV τ 23 0 152) from (gV_putn eτ406 (Or.inr (Or.inr (nat_ne b403 (by decide))))).trans a389))
                  have q425 : (gV τ414 23 0 152).toInt = (gV τ 23 0 152).toInt := congrArg Int32.toInt a424
                  have a426 : gV τ414 23 0 188 = (gV τ 23 0 188) := (show gV τ414 23 0 188 = (gV τ 23 0 188) from (gV_putn eτ414 (Or.inr (Or.inr (nat_ne b413 (by decide))))).trans (show gV τ406 23 0 188 = (gV τ 23 0 188) from (gV_putn eτ406 (Or.inr (Or.inr (nat_ne b403 (by decide))))).trans a391))
                  have q427 : (gV τ414 23 0 188).toInt = (gV τ 23 0 188).toInt := congrArg Int32.toInt a426
                  have a428 : gV τ414 22 0 11 = (gV τ360 22 0 11) := (show gV τ414 22 0 11 = (gV τ360 22 0 11) from gV_put eτ414 (show gV τ406 22 0 11 = (gV τ360 22 0 11) from gV_put eτ406 a393))
                  have q429 : (gV τ414 22 0 11).toInt = (gV τ360 22 0 11).toInt := congrArg Int32.toInt a428
                  have a430 : gV τ414 22 0 12 = (gV τ360 22 0 12) := (show gV τ414 22 0 12 = (gV τ360 22 0 12) from gV_put eτ414 (show gV τ406 22 0 12 = (gV τ360 22 0 12) from gV_put eτ406 a395))
                  have q431 : (gV τ414 22 0 12).toInt = (gV τ360 22 0 12).toInt := congrArg Int32.toInt a430
                  have a432 : gV τ414 22 0 16 = (gV τ360 22 0 16) := (show gV τ414 22 0 16 = (gV τ360 22 0 16) from gV_put eτ414 (show gV τ406 22 0 16 = (gV τ360 22 0 16) from gV_put eτ406 a397))
                  have q433 : (gV τ414 22 0 16).toInt = (gV τ360 22 0 16).toInt := congrArg Int32.toInt a432
                  have b434 : IV (gV τ 23 0 152) 0 6 := ⟨by have q1 := u3; omega, by have q1 := u3; omega⟩
                  refine m_iadd C dX12_takePerson_186 ?_
                  refine m_topi (fun x435 ex435 => ?_)
                  have tx435 : x435.toInt = (gV τ 23 0 152).toInt + 1 := by rw [ex435, ti_addv b434 kc_1 (by decide), kt_1]
                  have b436 : IV x435 1 7 := by rw [ex435]; exact iv_add b434 kc_1 (by decide)
                  refine as_23 C kc_152 (by decide) kn_152 dX12_takePerson_187 ?_
                  refine m_tops (fun τ437 eτ437 => ?_)
                  have i438 : Inv τ437 := eτ437 ▸ Inv.putR i415 (by decide) (iv_wk b436 (by decide))
                  have f439 : Fr MS_X12_takePersonE AS_X12_takePersonE σ τ437 := eτ437 ▸ Fr.put (f416) (Or.inr (by decide))
                  have v440 : CP (gV σ 23 0 152).toInt τ437 := v417.put eτ437 (Or.inr (fun q hq => by omega))
                  have v441 : TpM τ437 T N := v418.put eτ437 (Or.inl (by decide)) (by decide)
                  have v442 : CQ (gV σ 23 0 152).toInt.toNat τ437 := v419.put eτ437 (Or.inl (by decide)) (Or.inr (by omega))
                  refine m_aload_n C dX12_takePerson_188 rfl rfl ?_
                  clear q421 q423 q425 q427 q429 q431 q433
                  have a443 : gV τ437 22 0 6 = (gV τ 22 0 6) := (show gV τ437 22 0 6 = (gV τ 22 0 6) from gV_put eτ437 a420)
                  have q444 : (gV τ437 22 0 6).toInt = (gV τ 22 0 6).toInt := congrArg Int32.toInt a443
                  have a445 : gV τ437 23 0 150 = (gV τ 23 0 150) := (show gV τ437 23 0 150 = (gV τ 23 0 150) from gV_put eτ437 a422)
                  have q446 : (gV τ437 23 0 150).toInt = (gV τ 23 0 150).toInt := congrArg Int32.toInt a445
                  have a447 : gV τ437 23 0 188 = (gV τ 23 0 188) := (show gV τ437 23 0 188 = (gV τ 23 0 188) from gV_put eτ437 a426)
                  have q448 : (gV τ437 23 0 188).toInt = (gV τ 23 0 188).toInt := congrArg Int32.toInt a447
                  have a449 : gV τ437 22 0 11 = (gV τ360 22 0 11) := (show gV τ437 22 0 11 = (gV τ360 22 0 11) from gV_put eτ437 a428)
                  have q450 : (gV τ437 22 0 11).toInt = (gV τ360 22 0 11).toInt := congrArg Int32.toInt a449
                  have a451 : gV τ437 22 0 12 = (gV τ360 22 0 12) := (show gV τ437 22 0 12 = (gV τ360 22 0 12) from gV_put eτ437 a430)
                  have q452 : (gV τ437 22 0 12).toInt = (gV τ360 22 0 12).toInt := congrArg Int32.toInt a451
                  have a453 : gV τ437 22 0 16 = (gV τ360 22 0 16) := (show gV τ437 22 0 16 = (gV τ360 22 0 16) from gV_put eτ437 a432)
                  have q454 : (gV τ437 22 0 16).toInt = (gV τ360 22 0 16).toInt := congrArg Int32.toInt a453
                  have a455 : gV τ437 23 0 152 = x435 := (show gV τ437 23 0 152 = x435 from gV_put eτ437 (gV_self _ _ _ _ _))
                  have q456 : (gV τ437 23 0 152).toInt = x435.toInt := congrArg Int32.toInt a455
                  refine m_callV (n := 0) (ci := 11) (st := []) C (c_X12_takeSignE l G τ437 T N (tE T N (tE T N (tE T N (tE T N i))))  i438 v441 (fun h => absurd h (by omega)) (by omega)) (by decide) (by decide) rfl rfl rfl q5_15 q5_12 q5_14 q0_32 q1_7 (by decide +kernel) rfl (by decide) (by decide) rfl (Nat.le_of_ble_eq_true rfl) dX12_takePerson_189 ?_
                  rintro _ τ457 ⟨rfl, i458, f459, h463⟩
                  have g462 : Fr MS_X12_takePersonE AS_X12_takePersonE σ τ457 := Fr.call (f439) f459 (by decide)
                  have v464 : CP (gV σ 23 0 152).toInt τ457 := v440.call (fun k => f459.1 23 0 k (by simp) (by decide))
                  have v465 : TpM τ457 T N := v441.fr f459 (by decide) (by decide) (by simp) (by decide)
                  have u466 : IV (gV τ457 22 0 11) 0 400 := i458.1 22 0 11
                  have a467 : gV τ457 22 0 6 = (gV τ 22 0 6) := (show gV τ457 22 0 6 = (gV τ 22 0 6) from (f459.1 22 0 (6) (by decide) (by decide)).trans a443)
                  have q468 : (gV τ457 22 0 6).toInt = (gV τ 22 0 6).toInt := congrArg Int32.toInt a467
                  have a469 : gV τ457 23 0 150 = (gV τ 23 0 150) := (show gV τ457 23 0 150 = (gV τ 23 0 150) from (f459.1 23 0 (150) (by decide) (by decide)).trans a445)
                  have q470 : (gV τ457 23 0 150).toInt = (gV τ 23 0 150).toInt := congrArg Int32.toInt a469
                  have a471 : gV τ457 23 0 188 = (gV τ 23 0 188) := (show gV τ457 23 0 188 = (gV τ 23 0 188) from (f459.1 23 0 (188) (by decide) (by decide)).trans a447)
                  have q472 : (gV τ457 23 0 188).toInt = (gV τ 23 0 188).toInt := congrArg Int32.toInt a471
                  have a473 : gV τ457 23 0 152 = x435 := (show gV τ457 23 0 152 = x435 from (f459.1 23 0 (152) (by decide) (by decide)).trans a455)
                  have q474 : (gV τ457 23 0 152).toInt = x435.toInt := congrArg Int32.toInt a473
                  rcases h463 with ⟨h463_0, h463_1, h463_2, h463_3⟩ | ⟨h463_0, h463_1, h463_2, h463_3, h463_4⟩ | ⟨h463_0, h463_1, h463_2, h463_3, h463_4, h463_5⟩
                  · skip
                    have v475 : CQ (gV σ 23 0 152).toInt.toNat τ457 := v442.call (fun q => by omega) (fun k => f459.1 23 0 k (by simp) (by decide))
                    show MW p l e _ s m args below meth c _ 4 G 0 0 192 [some (.ref (G.1 22 0)), some (.int y1), some (.int z0), some (.int 0)] [] τ457
                    exact m_vret C hr hlk (by decide) (by decide) dX12_takePerson_192 ⟨rfl, i458, g462, (by have qd := per_4 T N st cc i (by omega) (by omega) (by omega) (by omega) (by omega); exact Or.inl ⟨by omega, by omega, by omega, by omega, by omega, by omega⟩)⟩
                  · skip
                    exfalso; omega
                  · skip
                    exfalso; omega
                · first | exact absurd c404 (by decide) | exact absurd (by decide) c404
              · exfalso
                have q : _ := c400
                simp only [ti_nle, ti_nlt, ti_le, ti_lt, ti_eq, ti_ne, Classical.not_not, kt_0] at q
                have q1 := b379; have q2 := kc_0; omega
            · skip
              have b478 : IV x363 (-1) (-1) := ⟨by omega, by omega⟩
              have b479 : IV (gV τ360 22 0 16) 2 2 := ⟨by omega, by omega⟩
              show MW p l e _ s m args below meth c _ 4 G 0 0 110 [some (.ref (G.1 22 0)), some (.int y1), some (.int z0), none] [.int x363, .int x338, .ref (G.1 23 0)] τ360
              refine m_goto (tgt := 114) C dX12_takePerson_110 (by decide) ?_
              refine as_23 C b339 (by decide) rfl dX12_takePerson_114 ?_
              refine m_tops (fun τ480 eτ480 => ?_)
              have i481 : Inv τ480 := eτ480 ▸ Inv.putRo i361 (by omega)
              have f482 : Fr MS_X12_takePersonE AS_X12_takePersonE σ τ480 := eτ480 ▸ Fr.put (g365) (Or.inr (by decide))
              have v483 : CP (gV σ 23 0 152).toInt τ480 := v367.put eτ480 (Or.inr (fun q hq => by omega))
              have v484 : TpM τ480 T N := v368.put eτ480 (Or.inl (by decide)) (by decide)
              have a485 : gV τ480 22 0 6 = (gV τ 22 0 6) := (show gV τ480 22 0 6 = (gV τ 22 0 6) from gV_put eτ480 a370)
              have q486 : (gV τ480 22 0 6).toInt = (gV τ 22 0 6).toInt := congrArg Int32.toInt a485
              have a487 : gV τ480 23 0 150 = (gV τ 23 0 150) := (show gV τ480 23 0 150 = (gV τ 23 0 150) from (gV_putn eτ480 (Or.inr (Or.inr (nat_ne b339 (by decide))))).trans a372)
              have q488 : (gV τ480 23 0 150).toInt = (gV τ 23 0 150).toInt := congrArg Int32.toInt a487
              have a489 : gV τ480 23 0 152 = (gV τ 23 0 152) := (show gV τ480 23 0 152 = (gV τ 23 0 152) from (gV_putn eτ480 (Or.inr (Or.inr (nat_ne b339 (by decide))))).trans a374)
              have q490 : (gV τ480 23 0 152).toInt = (gV τ 23 0 152).toInt := congrArg Int32.toInt a489
              have a491 : gV τ480 23 0 188 = (gV τ 23 0 188) := (show gV τ480 23 0 188 = (gV τ 23 0 188) from (gV_putn eτ480 (Or.inr (Or.inr (nat_ne b339 (by decide))))).trans a376)
              have q492 : (gV τ480 23 0 188).toInt = (gV τ 23 0 188).toInt := congrArg Int32.toInt a491
              have a493 : gV τ480 22 0 11 = (gV τ360 22 0 11) := (show gV τ480 22 0 11 = (gV τ360 22 0 11) from gV_put eτ480 rfl)
              have q494 : (gV τ480 22 0 11).toInt = (gV τ360 22 0 11).toInt := congrArg Int32.toInt a493
              have a495 : gV τ480 22 0 12 = (gV τ360 22 0 12) := (show gV τ480 22 0 12 = (gV τ360 22 0 12) from gV_put eτ480 rfl)
              have q496 : (gV τ480 22 0 12).toInt = (gV τ360 22 0 12).toInt := congrArg Int32.toInt a495
              have a497 : gV τ480 22 0 16 = (gV τ360 22 0 16) := (show gV τ480 22 0 16 = (gV τ360 22 0 16) from gV_put eτ480 rfl)
              have q498 : (gV τ480 22 0 16).toInt = (gV τ360 22 0 16).toInt := congrArg Int32.toInt a497
              have v499 : CQ (gV σ 23 0 152).toInt.toNat τ480 := by
                intro q
                have q1 : gV τ480 23 0 (x338.toInt.toNat) = x363 := (show gV τ480 23 0 (x338.toInt.toNat) = x363 from gV_put eτ480 (gV_self _ _ _ _ _))
                rw [show 167 + (gV σ 23 0 152).toInt.toNat = (x338.toInt.toNat) by omega, q1]
                omega
              refine m_aload_n C dX12_takePerson_115 rfl rfl ?_
              refine g_22_16 C q4_132 dX12_takePerson_116 ?_
              refine m_eqs (w := (gV τ360 22 0 16)) a497 ?_
              refine m_if_ne (tgt := 142) C dX12_takePerson_119 (by decide) (fun c500 => ?_) (fun c500 => ?_)
              · have f501 : (gV τ360 22 0 16).toInt ≠ 0 := by
                  have q : _ := c500
                  simp only [ti_nle, ti_nlt, ti_le, ti_lt, ti_eq, ti_ne, Classical.not_not, kt_0] at q
                  omega
                refine m_iconst (v := 0) C dX12_takePerson_142 (by decide) ?_
                refine m_istore_n (L1 := [some (.ref (G.1 22 0)), some (.int y1), some (.int z0), some (.int 0)]) C dX12_takePerson_143 rfl (by decide) rfl rfl ?_
                refine m_aload_n C dX12_takePerson_144 rfl rfl ?_
                refine g_22_0 C q4_116 dX12_takePerson_145 ?_
                refine m_sipush (v := 174) C dX12_takePerson_148 (by decide) ?_
                refine m_iload_n C dX12_takePerson_151 rfl rfl ?_
                refine m_iadd C dX12_takePerson_152 ?_
                refine m_topi (fun x502 ex502 => ?_)
                have tx502 : x502.toInt = 174 + y1.toInt := by rw [ex502, ti_addv kc_174 b_y1 (by decide), kt_174]
                have b503 : IV x502 174 180 := by rw [ex502]; exact iv_add kc_174 b_y1 (by decide)
                refine m_iload_n C dX12_takePerson_153 rfl rfl ?_
                refine m_bipush (v := 99) C dX12_takePerson_154 (by decide) ?_
                refine m_icmp_ne (tgt := 163) C dX12_takePerson_156 (by decide) (fun c504 => ?_) (fun c504 => ?_)
                · have f505 : 0 ≠ 99 := by
                    have q : _ := c504
                    simp only [ti_nle, ti_nlt, ti_le, ti_lt, ti_eq, ti_ne, Classical.not_not, kt_0, kt_99] at q
                    omega
                  refine m_iload_n C dX12_takePerson_163 rfl rfl ?_
                  refine as_23 C b503 (by decide) rfl dX12_takePerson_164 ?_
                  refine m_tops (fun τ506 eτ506 => ?_)
                  have i507 : Inv τ506 := eτ506 ▸ Inv.putR0 i481 (by omega) kt_0
                  have f508 : Fr MS_X12_takePersonE AS_X12_takePersonE σ τ506 := eτ506 ▸ Fr.put (f482) (Or.inr (by decide))
                  have v509 : CP (gV σ 23 0 152).toInt τ506 := v483.put eτ506 (Or.inr (fun q hq => by omega))
                  have v510 : TpM τ506 T N := v484.put eτ506 (Or.inl (by decide)) (by decide)
                  have v511 : CQ (gV σ 23 0 152).toInt.toNat τ506 := v499.put eτ506 (Or.inl (by decide)) (Or.inr (by omega))
                  refine m_aload_n C dX12_takePerson_165 rfl rfl ?_
                  refine g_22_0 C q4_116 dX12_takePerson_166 ?_
                  refine m_sipush (v := 181) C dX12_takePerson_169 (by decide) ?_
                  refine m_iload_n C dX12_takePerson_172 rfl rfl ?_
                  refine m_iadd C dX12_takePerson_173 ?_
                  refine m_topi (fun x512 ex512 => ?_)
                  have tx512 : x512.toInt = 181 + y1.toInt := by rw [ex512, ti_addv kc_181 b_y1 (by decide), kt_181]
                  have b513 : IV x512 181 187 := by rw [ex512]; exact iv_add kc_181 b_y1 (by decide)
                  refine m_iconst (v := 0) C dX12_takePerson_174 (by decide) ?_
                  refine as_23 C b513 (by decide) rfl dX12_takePerson_175 ?_
                  refine m_tops (fun τ514 eτ514 => ?_)
                  have i515 : Inv τ514 := eτ514 ▸ Inv.putR0 i507 (by omega) kt_0
                  have f516 : Fr MS_X12_takePersonE AS_X12_takePersonE σ τ514 := eτ514 ▸ Fr.put (f508) (Or.inr (by decide))
                  have v517 : CP (gV σ 23 0 152).toInt τ514 := v509.put eτ514 (Or.inr (fun q hq => by omega))
                  have v518 : TpM τ514 T N := v510.put eτ514 (Or.inl (by decide)) (by decide)
                  have v519 : CQ (gV σ 23 0 152).toInt.toNat τ514 := v511.put eτ514 (Or.inl (by decide)) (Or.inr (by omega))
                  refine m_aload_n C dX12_takePerson_176 rfl rfl ?_
                  refine g_22_0 C q4_116 dX12_takePerson_177 ?_
                  refine m_sipush (v := 152) C dX12_takePerson_180 (by decide) ?_
                  refine m_dup2 C dX12_takePerson_183 rfl rfl ?_
                  refine al_23 C kc_152 (by decide) kn_152 dX12_takePerson_184 ?_
                  refine m_eqs (w := (gV τ 23 0 152)) (show gV τ514 23 0 152 = (gV τ 23 0 152) from (gV_putn eτ514 (Or.inr (Or.inr (nat_ne b513 (by decide))))).trans (show gV τ506 23 0 152 = (gV τ 23 0 152) from (gV_putn eτ506 (Or.inr (Or.inr (nat_ne b503 (by decide))))).trans a489)) ?_
                  refine m_iconst (v := 1) C dX12_takePerson_185 (by decide) ?_
                  clear q486 q488 q490 q492 q494 q496 q498
                  have a520 : gV τ514 22 0 6 = (gV τ 22 0 6) := (show gV τ514 22 0 6 = (gV τ 22 0 6) from gV_put eτ514 (show gV τ506 22 0 6 = (gV τ 22 0 6) from gV_put eτ506 a485))
                  have q521 : (gV τ514 22 0 6).toInt = (gV τ 22 0 6).toInt := congrArg Int32.toInt a520
                  have a522 : gV τ514 23 0 150 = (gV τ 23 0 150) := (show gV τ514 23 0 150 = (gV τ 23 0 150) from (gV_putn eτ514 (Or.inr (Or.inr (nat_ne b513 (by decide))))).trans (show gV τ506 23 0 150 = (gV τ 23 0 150) from (gV_putn eτ506 (Or.inr (Or.inr (nat_ne b503 (by decide))))).trans a487))
                  have q523 : (gV τ514 23 0 150).toInt = (gV τ 23 0 150).toInt := congrArg Int32.toInt a522
                  have a524 : gV τ514 23 0 152 = (gV τ 23 0 152) := (show gV τ514 23 0 152 = (gV τ 23 0 152) from (gV_putn eτ514 (Or.inr (Or.inr (nat_ne b513 (by decide))))).trans (show gV τ506 23 0 152 = (gV τ 23 0 152) from (gV_putn eτ506 (Or.inr (Or.inr (nat_ne b503 (by decide))))).trans a489))
                  have q525 : (gV τ514 23 0 152).toInt = (gV τ 23 0 152).toInt := congrArg Int32.toInt a524
                  have a526 : gV τ514 23 0 188 = (gV τ 23 0 188) := (show gV τ514 23 0 188 = (gV τ 23 0 188) from (gV_putn eτ514 (Or.inr (Or.inr (nat_ne b513 (by decide))))).trans (show gV τ506 23 0 188 = (gV τ 23 0 188) from (gV_putn eτ506 (Or.inr (Or.inr (nat_ne b503 (by decide))))).trans a491))
                  have q527 : (gV τ514 23 0 188).toInt = (gV τ 23 0 188).toInt := congrArg Int32.toInt a526
                  have a528 : gV τ514 22 0 11 = (gV τ360 22 0 11) := (show gV τ514 22 0 11 = (gV τ360 22 0 11) from gV_put eτ514 (show gV τ506 22 0 11 = (gV τ360 22 0 11) from gV_put eτ506 a493))
                  have q529 : (gV τ514 22 0 11).toInt = (gV τ360 22 0 11).toInt := congrArg Int32.toInt a528
                  have a530 : gV τ514 22 0 12 = (gV τ360 22 0 12) := (show gV τ514 22 0 12 = (gV τ360 22 0 12) from gV_put eτ514 (show gV τ506 22 0 12 = (gV τ360 22 0 12) from gV_put eτ506 a495))
                  have q531 : (gV τ514 22 0 12).toInt = (gV τ360 22 0 12).toInt := congrArg Int32.toInt a530
                  have a532 : gV τ514 22 0 16 = (gV τ360 22 0 16) := (show gV τ514 22 0 16 = (gV τ360 22 0 16) from gV_put eτ514 (show gV τ506 22 0 16 = (gV τ360 22 0 16) from gV_put eτ506 a497))
                  have q533 : (gV τ514 22 0 16).toInt = (gV τ360 22 0 16).toInt := congrArg Int32.toInt a532
                  have b534 : IV (gV τ 23 0 152) 0 6 := ⟨by have q1 := u3; omega, by have q1 := u3; omega⟩
                  refine m_iadd C dX12_takePerson_186 ?_
                  refine m_topi (fun x535 ex535 => ?_)
                  have tx535 : x535.toInt = (gV τ 23 0 152).toInt + 1 := by rw [ex535, ti_addv b534 kc_1 (by decide), kt_1]
                  have b536 : IV x535 1 7 := by rw [ex535]; exact iv_add b534 kc_1 (by decide)
                  refine as_23 C kc_152 (by decide) kn_152 dX12_takePerson_187 ?_
                  refine m_tops (fun τ537 eτ537 => ?_)
                  have i538 : Inv τ537 := eτ537 ▸ Inv.putR i515 (by decide) (iv_wk b536 (by decide))
                  have f539 : Fr MS_X12_takePersonE AS_X12_takePersonE σ τ537 := eτ537 ▸ Fr.put (f516) (Or.inr (by decide))
                  have v540 : CP (gV σ 23 0 152).toInt τ537 := v517.put eτ537 (Or.inr (fun q hq => by omega))
                  have v541 : TpM τ537 T N := v518.put eτ537 (Or.inl (by decide)) (by decide)
                  have v542 : CQ (gV σ 23 0 152).toInt.toNat τ537 := v519.put eτ537 (Or.inl (by decide)) (Or.inr (by omega))
                  refine m_aload_n C dX12_takePerson_188 rfl rfl ?_
                  clear q521 q523 q525 q527 q529 q531 q533
                  have a543 : gV τ537 22 0 6 = (gV τ 22 0 6) := (show gV τ537 22 0 6 = (gV τ 22 0 6) from gV_put eτ537 a520)
                  have q544 : (gV τ537 22 0 6).toInt = (gV τ 22 0 6).toInt := congrArg Int32.toInt a543
                  have a545 : gV τ537 23 0 150 = (gV τ 23 0 150) := (show gV τ537 23 0 150 = (gV τ 23 0 150) from gV_put eτ537 a522)
                  have q546 : (gV τ537 23 0 150).toInt = (gV τ 23 0 150).toInt := congrArg Int32.toInt a545
                  have a547 : gV τ537 23 0 188 = (gV τ 23 0 188) := (show gV τ537 23 0 188 = (gV τ 23 0 188) from gV_put eτ537 a526)
                  have q548 : (gV τ537 23 0 188).toInt = (gV τ 23 0 188).toInt := congrArg Int32.toInt a547
                  have a549 : gV τ537 22 0 11 = (gV τ360 22 0 11) := (show gV τ537 22 0 11 = (gV τ360 22 0 11) from gV_put eτ537 a528)
                  have q550 : (gV τ537 22 0 11).toInt = (gV τ360 22 0 11).toInt := congrArg Int32.toInt a549
                  have a551 : gV τ537 22 0 12 = (gV τ360 22 0 12) := (show gV τ537 22 0 12 = (gV τ360 22 0 12) from gV_put eτ537 a530)
                  have q552 : (gV τ537 22 0 12).toInt = (gV τ360 22 0 12).toInt := congrArg Int32.toInt a551
                  have a553 : gV τ537 22 0 16 = (gV τ360 22 0 16) := (show gV τ537 22 0 16 = (gV τ360 22 0 16) from gV_put eτ537 a532)
                  have q554 : (gV τ537 22 0 16).toInt = (gV τ360 22 0 16).toInt := congrArg Int32.toInt a553
                  have a555 : gV τ537 23 0 152 = x535 := (show gV τ537 23 0 152 = x535 from gV_put eτ537 (gV_self _ _ _ _ _))
                  have q556 : (gV τ537 23 0 152).toInt = x535.toInt := congrArg Int32.toInt a555
                  refine m_callV (n := 0) (ci := 11) (st := []) C (c_X12_takeSignE l G τ537 T N (tE T N (tE T N (tE T N (tE T N i))))  i538 v541 (fun h => absurd h (by omega)) (by omega)) (by decide) (by decide) rfl rfl rfl q5_15 q5_12 q5_14 q0_32 q1_7 (by decide +kernel) rfl (by decide) (by decide) rfl (Nat.le_of_ble_eq_true rfl) dX12_takePerson_189 ?_
                  rintro _ τ557 ⟨rfl, i558, f559, h563⟩
                  have g562 : Fr MS_X12_takePersonE AS_X12_takePersonE σ τ557 := Fr.call (f539) f559 (by decide)
                  have v564 : CP (gV σ 23 0 152).toInt τ557 := v540.call (fun k => f559.1 23 0 k (by simp) (by decide))
                  have v565 : TpM τ557 T N := v541.fr f559 (by decide) (by decide) (by simp) (by decide)
                  have u566 : IV (gV τ557 22 0 11) 0 400 := i558.1 22 0 11
                  have a567 : gV τ557 22 0 6 = (gV τ 22 0 6) := (show gV τ557 22 0 6 = (gV τ 22 0 6) from (f559.1 22 0 (6) (by decide) (by decide)).trans a543)
                  have q568 : (gV τ557 22 0 6).toInt = (gV τ 22 0 6).toInt := congrArg Int32.toInt a567
                  have a569 : gV τ557 23 0 150 = (gV τ 23 0 150) := (show gV τ557 23 0 150 = (gV τ 23 0 150) from (f559.1 23 0 (150) (by decide) (by decide)).trans a545)
                  have q570 : (gV τ557 23 0 150).toInt = (gV τ 23 0 150).toInt := congrArg Int32.toInt a569
                  have a571 : gV τ557 23 0 188 = (gV τ 23 0 188) := (show gV τ557 23 0 188 = (gV τ 23 0 188) from (f559.1 23 0 (188) (by decide) (by decide)).trans a547)
                  have q572 : (gV τ557 23 0 188).toInt = (gV τ 23 0 188).toInt := congrArg Int32.toInt a571
                  have a573 : gV τ557 23 0 152 = x535 := (show gV τ557 23 0 152 = x535 from (f559.1 23 0 (152) (by decide) (by decide)).trans a555)
                  have q574 : (gV τ557 23 0 152).toInt = x535.toInt := congrArg Int32.toInt a573
                  rcases h563 with ⟨h563_0, h563_1, h563_2, h563_3⟩ | ⟨h563_0, h563_1, h563_2, h563_3, h563_4⟩ | ⟨h563_0, h563_1, h563_2, h563_3, h563_4, h563_5⟩
                  · skip
                    have v575 : CQ (gV σ 23 0 152).toInt.toNat τ557 := v542.call (fun q => by omega) (fun k => f559.1 23 0 k (by simp) (by decide))
                    show MW p l e _ s m args below meth c _ 4 G 0 0 192 [some (.ref (G.1 22 0)), some (.int y1), some (.int z0), some (.int 0)] [] τ557
                    exact m_vret C hr hlk (by decide) (by decide) dX12_takePerson_192 ⟨rfl, i558, g562, (by have qd := per_5 T N st cc i (by omega) (by omega) (by omega) (by omega) (by omega) (by omega); exact Or.inl ⟨by omega, by omega, by omega, by omega, by omega, by omega⟩)⟩
                  · skip
                    exfalso; omega
                  · skip
                    exfalso; omega
                · first | exact absurd c504 (by decide) | exact absurd (by decide) c504
              · exfalso
                have q : _ := c500
                simp only [ti_nle, ti_nlt, ti_le, ti_lt, ti_eq, ti_ne, Classical.not_not, kt_0] at q
                have q1 := b479; have q2 := kc_0; omega
            · skip
              have q578 : 1 ≤ tV T (tE T N (tE T N (tE T N i))) ∧ tV T (tE T N (tE T N (tE T N i))) ≤ 4 := by omega
              clear h366_1
              have v579 : CuM T N (tE T N (tE T N (tE T N (tE T N i)))) τ360 := ⟨h366_4, h366_5⟩
              clear h366_4
              have b580 : IV (gV τ360 22 0 16) 0 0 := ⟨by omega, by omega⟩
              show MW p l e _ s m args below meth c _ 4 G 0 0 110 [some (.ref (G.1 22 0)), some (.int y1), some (.int z0), none] [.int x363, .int x338, .ref (G.1 23 0)] τ360
              refine m_goto (tgt := 114) C dX12_takePerson_110 (by decide) ?_
              refine as_23 C b339 (by decide) rfl dX12_takePerson_114 ?_
              refine m_tops (fun τ581 eτ581 => ?_)
              have i582 : Inv τ581 := eτ581 ▸ Inv.putRo i361 (by omega)
              have f583 : Fr MS_X12_takePersonE AS_X12_takePersonE σ τ581 := eτ581 ▸ Fr.put (g365) (Or.inr (by decide))
              have v584 : CP (gV σ 23 0 152).toInt τ581 := v367.put eτ581 (Or.inr (fun q hq => by omega))
              have v585 : TpM τ581 T N := v368.put eτ581 (Or.inl (by decide)) (by decide)
              have v586 : LW T N (tE T N (tE T N (tE T N (tE T N i)))) τ581.2.2.1 := by rw [eτ581]; exact h366_6
              have v587 : CuM T N (tE T N (tE T N (tE T N (tE T N i)))) τ581 := CuM.put v579 eτ581 (Or.inl (by decide))
              have a588 : gV τ581 22 0 6 = (gV τ 22 0 6) := (show gV τ581 22 0 6 = (gV τ 22 0 6) from gV_put eτ581 a370)
              have q589 : (gV τ581 22 0 6).toInt = (gV τ 22 0 6).toInt := congrArg Int32.toInt a588
              have a590 : gV τ581 23 0 150 = (gV τ 23 0 150) := (show gV τ581 23 0 150 = (gV τ 23 0 150) from (gV_putn eτ581 (Or.inr (Or.inr (nat_ne b339 (by decide))))).trans a372)
              have q591 : (gV τ581 23 0 150).toInt = (gV τ 23 0 150).toInt := congrArg Int32.toInt a590
              have a592 : gV τ581 23 0 152 = (gV τ 23 0 152) := (show gV τ581 23 0 152 = (gV τ 23 0 152) from (gV_putn eτ581 (Or.inr (Or.inr (nat_ne b339 (by decide))))).trans a374)
              have q593 : (gV τ581 23 0 152).toInt = (gV τ 23 0 152).toInt := congrArg Int32.toInt a592
              have a594 : gV τ581 23 0 188 = (gV τ 23 0 188) := (show gV τ581 23 0 188 = (gV τ 23 0 188) from (gV_putn eτ581 (Or.inr (Or.inr (nat_ne b339 (by decide))))).trans a376)
              have q595 : (gV τ581 23 0 188).toInt = (gV τ 23 0 188).toInt := congrArg Int32.toInt a594
              have a596 : gV τ581 22 0 11 = (gV τ360 22 0 11) := (show gV τ581 22 0 11 = (gV τ360 22 0 11) from gV_put eτ581 rfl)
              have q597 : (gV τ581 22 0 11).toInt = (gV τ360 22 0 11).toInt := congrArg Int32.toInt a596
              have a598 : gV τ581 22 0 12 = (gV τ360 22 0 12) := (show gV τ581 22 0 12 = (gV τ360 22 0 12) from gV_put eτ581 rfl)
              have q599 : (gV τ581 22 0 12).toInt = (gV τ360 22 0 12).toInt := congrArg Int32.toInt a598
              have a600 : gV τ581 22 0 16 = (gV τ360 22 0 16) := (show gV τ581 22 0 16 = (gV τ360 22 0 16) from gV_put eτ581 rfl)
              have q601 : (gV τ581 22 0 16).toInt = (gV τ360 22 0 16).toInt := congrArg Int32.toInt a600
              have v602 : CQ (gV σ 23 0 152).toInt.toNat τ581 := by
                intro q
                have q1 : gV τ581 23 0 (x338.toInt.toNat) = x363 := (show gV τ581 23 0 (x338.toInt.toNat) = x363 from gV_put eτ581 (gV_self _ _ _ _ _))
                rw [show 167 + (gV σ 23 0 152).toInt.toNat = (x338.toInt.toNat) by omega, q1]
                omega
              refine m_aload_n C dX12_takePerson_115 rfl rfl ?_
              refine g_22_16 C q4_132 dX12_takePerson_116 ?_
              refine m_eqs (w := (gV τ360 22 0 16)) a600 ?_
              refine m_if_ne (tgt := 142) C dX12_takePerson_119 (by decide) (fun c603 => ?_) (fun c603 => ?_)
              · exfalso
                have q : _ := c603
                simp only [ti_nle, ti_nlt, ti_le, ti_lt, ti_eq, ti_ne, Classical.not_not, kt_0] at q
                have q1 := b580; have q2 := kc_0; omega
              · have f605 : (gV τ360 22 0 16).toInt = 0 := by
                  have q : _ := c603
                  simp only [ti_nle, ti_nlt, ti_le, ti_lt, ti_eq, ti_ne, Classical.not_not, kt_0] at q
                  omega
                refine m_aload_n C dX12_takePerson_122 rfl rfl ?_
                refine m_iconst (v := 0) C dX12_takePerson_123 (by decide) ?_
                refine m_aload_n C dX12_takePerson_124 rfl rfl ?_
                refine g_22_0 C q4_116 dX12_takePerson_125 ?_
                refine m_sipush (v := 150) C dX12_takePerson_128 (by decide) ?_
                refine al_23 C kc_150 (by decide) kn_150 dX12_takePerson_131 ?_
                refine m_eqs (w := (gV τ 23 0 150)) a590 ?_
                have b606 : IV (gV τ 23 0 150) 4 32 := ⟨by have q1 := (iv_any (gV τ 23 0 150)); omega, by have q1 := (iv_any (gV τ 23 0 150)); omega⟩
                refine m_iconst (v := 1) C dX12_takePerson_132 (by decide) ?_
                refine m_isub C dX12_takePerson_133 ?_
                refine m_topi (fun x607 ex607 => ?_)
                have tx607 : x607.toInt = (gV τ 23 0 150).toInt - 1 := by rw [ex607, ti_subv b606 kc_1 (by decide), kt_1]
                have b608 : IV x607 3 31 := by rw [ex607]; exact iv_sub b606 kc_1 (by decide)
                refine m_bipush (v := 99) C dX12_takePerson_134 (by decide) ?_
                have q609 := kt_0
                have q610 := kt_99
                refine m_callV (n := 3) (ci := 11) (st := []) C (c_X12_takeNumberE l G τ581 T N (tE T N (tE T N (tE T N (tE T N i)))) (0) (x607) (99) i582 v585 v587.1 (by omega)) (by decide) (by decide) rfl rfl rfl q5_7 q5_4 q5_6 q0_30 q1_7 (by decide +kernel) rfl (by decide) (by decide) rfl (Nat.le_of_ble_eq_true rfl) dX12_takePerson_136 ?_
                rintro _ τ611 ⟨x614, rfl, i612, f613, b615, h617⟩
                have g616 : Fr MS_X12_takePersonE AS_X12_takePersonE σ τ611 := Fr.call (f583) f613 (by decide)
                have v618 : CP (gV σ 23 0 152).toInt τ611 := v584.call (fun k => f613.1 23 0 k (by simp) (by decide))
                have v619 : TpM τ611 T N := v585.fr f613 (by decide) (by decide) (by simp) (by decide)
                have u620 : IV (gV τ611 22 0 11) 0 400 := i612.1 22 0 11
                have a621 : gV τ611 22 0 6 = (gV τ 22 0 6) := (show gV τ611 22 0 6 = (gV τ 22 0 6) from (f613.1 22 0 (6) (by decide) (by decide)).trans a588)
                have q622 : (gV τ611 22 0 6).toInt = (gV τ 22 0 6).toInt := congrArg Int32.toInt a621
                have a623 : gV τ611 23 0 150 = (gV τ 23 0 150) := (show gV τ611 23 0 150 = (gV τ 23 0 150) from (f613.1 23 0 (150) (by decide) (by decide)).trans a590)
                have q624 : (gV τ611 23 0 150).toInt = (gV τ 23 0 150).toInt := congrArg Int32.toInt a623
                have a625 : gV τ611 23 0 152 = (gV τ 23 0 152) := (show gV τ611 23 0 152 = (gV τ 23 0 152) from (f613.1 23 0 (152) (by decide) (by decide)).trans a592)
                have q626 : (gV τ611 23 0 152).toInt = (gV τ 23 0 152).toInt := congrArg Int32.toInt a625
                have a627 : gV τ611 23 0 188 = (gV τ 23 0 188) := (show gV τ611 23 0 188 = (gV τ 23 0 188) from (f613.1 23 0 (188) (by decide) (by decide)).trans a594)
                have q628 : (gV τ611 23 0 188).toInt = (gV τ 23 0 188).toInt := congrArg Int32.toInt a627
                rcases h617 with ⟨h617_0, h617_1, h617_2, h617_3, h617_4⟩ | ⟨h617_0, h617_1, h617_2, h617_3, h617_4, h617_5, h617_6⟩ | ⟨h617_0, h617_1, h617_2, h617_3, h617_4, h617_5, h617_6⟩
                · skip
                  have b629 : IV x614 (-1) (-1) := ⟨by omega, by omega⟩
                  have v630 : CQ (gV σ 23 0 152).toInt.toNat τ611 := v602.call (fun q => by omega) (fun k => f613.1 23 0 k (by simp) (by decide))
                  have b631 : IV (gV τ611 22 0 16) 1 1 := ⟨by omega, by omega⟩
                  show MW p l e _ s m args below meth c _ 4 G 0 0 139 [some (.ref (G.1 22 0)), some (.int y1), some (.int z0), none] [.int x614] τ611
                  refine m_goto (tgt := 143) C dX12_takePerson_139 (by decide) ?_
                  refine m_istore_n (L1 := [some (.ref (G.1 22 0)), some (.int y1), some (.int z0), some (.int x614)]) C dX12_takePerson_143 rfl (by decide) rfl rfl ?_
                  refine m_aload_n C dX12_takePerson_144 rfl rfl ?_
                  refine g_22_0 C q4_116 dX12_takePerson_145 ?_
                  refine m_sipush (v := 174) C dX12_takePerson_148 (by decide) ?_
                  refine m_iload_n C dX12_takePerson_151 rfl rfl ?_
                  refine m_iadd C dX12_takePerson_152 ?_
                  refine m_topi (fun x632 ex632 => ?_)
                  have tx632 : x632.toInt = 174 + y1.toInt := by rw [ex632, ti_addv kc_174 b_y1 (by decide), kt_174]
                  have b633 : IV x632 174 180 := by rw [ex632]; exact iv_add kc_174 b_y1 (by decide)
                  refine m_iload_n C dX12_takePerson_153 rfl rfl ?_
                  refine m_bipush (v := 99) C dX12_takePerson_154 (by decide) ?_
                  refine m_icmp_ne (tgt := 163) C dX12_takePerson_156 (by decide) (fun c634 => ?_) (fun c634 => ?_)
                  · have f635 : x614.toInt ≠ 99 := by
                      have q : _ := c634
                      simp only [ti_nle, ti_nlt, ti_le, ti_lt, ti_eq, ti_ne, Classical.not_not, kt_99] at q
                      omega
                    refine m_iload_n C dX12_takePerson_163 rfl rfl ?_
                    refine as_23 C b633 (by decide) rfl dX12_takePerson_164 ?_
                    refine m_tops (fun τ636 eτ636 => ?_)
                    have i637 : Inv τ636 := eτ636 ▸ Inv.putRo i612 (by omega)
                    have f638 : Fr MS_X12_takePersonE AS_X12_takePersonE σ τ636 := eτ636 ▸ Fr.put (g616) (Or.inr (by decide))
                    have v639 : CP (gV σ 23 0 152).toInt τ636 := v618.put eτ636 (Or.inr (fun q hq => by omega))
                    have v640 : TpM τ636 T N := v619.put eτ636 (Or.inl (by decide)) (by decide)
                    have v641 : CQ (gV σ 23 0 152).toInt.toNat τ636 := v630.put eτ636 (Or.inl (by decide)) (Or.inr (by omega))
                    refine m_aload_n C dX12_takePerson_165 rfl rfl ?_
                    refine g_22_0 C q4_116 dX12_takePerson_166 ?_
                    refine m_sipush (v := 181) C dX12_takePerson_169 (by decide) ?_
                    refine m_iload_n C dX12_takePerson_172 rfl rfl ?_
                    refine m_iadd C dX12_takePerson_173 ?_
                    refine m_topi (fun x642 ex642 => ?_)
                    have tx642 : x642.toInt = 181 + y1.toInt := by rw [ex642, ti_addv kc_181 b_y1 (by decide), kt_181]
                    have b643 : IV x642 181 187 := by rw [ex642]; exact iv_add kc_181 b_y1 (by decide)
                    refine m_iconst (v := 0) C dX12_takePerson_174 (by decide) ?_
                    refine as_23 C b643 (by decide) rfl dX12_takePerson_175 ?_
                    refine m_tops (fun τ644 eτ644 => ?_)
                    have i645 : Inv τ644 := eτ644 ▸ Inv.putR0 i637 (by omega) kt_0
                    have f646 : Fr MS_X12_takePersonE AS_X12_takePersonE σ τ644 := eτ644 ▸ Fr.put (f638) (Or.inr (by decide))
                    have v647 : CP (gV σ 23 0 152).toInt τ644 := v639.put eτ644 (Or.inr (fun q hq => by omega))
                    have v648 : TpM τ644 T N := v640.put eτ644 (Or.inl (by decide)) (by decide)
                    have v649 : CQ (gV σ 23 0 152).toInt.toNat τ644 := v641.put eτ644 (Or.inl (by decide)) (Or.inr (by omega))
                    refine m_aload_n C dX12_takePerson_176 rfl rfl ?_
                    refine g_22_0 C q4_116 dX12_takePerson_177 ?_
                    refine m_sipush (v := 152) C dX12_takePerson_180 (by decide) ?_
                    refine m_dup2 C dX12_takePerson_183 rfl rfl ?_
                    refine al_23 C kc_152 (by decide) kn_152 dX12_takePerson_184 ?_
                    refine m_eqs (w := (gV τ 23 0 152)) (show gV τ644 23 0 152 = (gV τ 23 0 152) from (gV_putn eτ644 (Or.inr (Or.inr (nat_ne b643 (by decide))))).trans (show gV τ636 23 0 152 = (gV τ 23 0 152) from (gV_putn eτ636 (Or.inr (Or.inr (nat_ne b633 (by decide))))).trans a625)) ?_
                    refine m_iconst (v := 1) C dX12_takePerson_185 (by decide) ?_
                    have a650 : gV τ644 22 0 6 = (gV τ 22 0 6) := (show gV τ644 22 0 6 = (gV τ 22 0 6) from gV_put eτ644 (show gV τ636 22 0 6 = (gV τ 22 0 6) from gV_put eτ636 a621))
                    have q651 : (gV τ644 22 0 6).toInt = (gV τ 22 0 6).toInt := congrArg Int32.toInt a650
                    have a652 : gV τ644 23 0 150 = (gV τ 23 0 150) := (show gV τ644 23 0 150 = (gV τ 23 0 150) from (gV_putn eτ644 (Or.inr (Or.inr (nat_ne b643 (by decide))))).trans (show gV τ636 23 0 150 = (gV τ 23 0 150) from (gV_putn eτ636 (Or.inr (Or.inr (nat_ne b633 (by decide))))).trans a623))
                    have q653 : (gV τ644 23 0 150).toInt = (gV τ 23 0 150).toInt := congrArg Int32.toInt a652
                    have a654 : gV τ644 23 0 152 = (gV τ 23 0 152) := (show gV τ644 23 0 152 = (gV τ 23 0 152) from (gV_putn eτ644 (Or.inr (Or.inr (nat_ne b643 (by decide))))).trans (show gV τ636 23 0 152 = (gV τ 23 0 152) from (gV_putn eτ636 (Or.inr (Or.inr (nat_ne b633 (by decide))))).trans a625))
                    have q655 : (gV τ644 23 0 152).toInt = (gV τ 23 0 152).toInt := congrArg Int32.toInt a654
                    have a656 : gV τ644 23 0 188 = (gV τ 23 0 188) := (show gV τ644 23 0 188 = (gV τ 23 0 188) from (gV_putn eτ644 (Or.inr (Or.inr (nat_ne b643 (by decide))))).trans (show gV τ636 23 0 188 = (gV τ 23 0 188) from (gV_putn eτ636 (Or.inr (Or.inr (nat_ne b633 (by decide))))).trans a627))
                    have q657 : (gV τ644 23 0 188).toInt = (gV τ 23 0 188).toInt := congrArg Int32.toInt a656
                    have a658 : gV τ644 22 0 11 = (gV τ611 22 0 11) := (show gV τ644 22 0 11 = (gV τ611 22 0 11) from gV_put eτ644 (show gV τ636 22 0 11 = (gV τ611 22 0 11) from gV_put eτ636 rfl))
                    have q659 : (gV τ644 22 0 11).toInt = (gV τ611 22 0 11).toInt := congrArg Int32.toInt a658
                    have a660 : gV τ644 22 0 12 = (gV τ611 22 0 12) := (show gV τ644 22 0 12 = (gV τ611 22 0 12) from gV_put eτ644 (show gV τ636 22 0 12 = (gV τ611 22 0 12) from gV_put eτ636 rfl))
                    have q661 : (gV τ644 22 0 12).toInt = (gV τ611 22 0 12).toInt := congrArg Int32.toInt a660
                    have a662 : gV τ644 22 0 16 = (gV τ611 22 0 16) := (show gV τ644 22 0 16 = (gV τ611 22 0 16) from gV_put eτ644 (show gV τ636 22 0 16 = (gV τ611 22 0 16) from gV_put eτ636 rfl))
                    have q663 : (gV τ644 22 0 16).toInt = (gV τ611 22 0 16).toInt := congrArg Int32.toInt a662
                    have b664 : IV (gV τ 23 0 152) 0 6 := ⟨by have q1 := u3; omega, by have q1 := u3; omega⟩
                    refine m_iadd C dX12_takePerson_186 ?_
                    refine m_topi (fun x665 ex665 => ?_)
                    have tx665 : x665.toInt = (gV τ 23 0 152).toInt + 1 := by rw [ex665, ti_addv b664 kc_1 (by decide), kt_1]
                    have b666 : IV x665 1 7 := by rw [ex665]; exact iv_add b664 kc_1 (by decide)
                    refine as_23 C kc_152 (by decide) kn_152 dX12_takePerson_187 ?_
                    refine m_tops (fun τ667 eτ667 => ?_)
                    have i668 : Inv τ667 := eτ667 ▸ Inv.putR i645 (by decide) (iv_wk b666 (by decide))
                    have f669 : Fr MS_X12_takePersonE AS_X12_takePersonE σ τ667 := eτ667 ▸ Fr.put (f646) (Or.inr (by decide))
                    have v670 : CP (gV σ 23 0 152).toInt τ667 := v647.put eτ667 (Or.inr (fun q hq => by omega))
                    have v671 : TpM τ667 T N := v648.put eτ667 (Or.inl (by decide)) (by decide)
                    have v672 : CQ (gV σ 23 0 152).toInt.toNat τ667 := v649.put eτ667 (Or.inl (by decide)) (Or.inr (by omega))
                    refine m_aload_n C dX12_takePerson_188 rfl rfl ?_
                    clear q651 q653 q655 q657 q659 q661 q663
                    have a673 : gV τ667 22 0 6 = (gV τ 22 0 6) := (show gV τ667 22 0 6 = (gV τ 22 0 6) from gV_put eτ667 a650)
                    have q674 : (gV τ667 22 0 6).toInt = (gV τ 22 0 6).toInt := congrArg Int32.toInt a673
                    have a675 : gV τ667 23 0 150 = (gV τ 23 0 150) := (show gV τ667 23 0 150 = (gV τ 23 0 150) from gV_put eτ667 a652)
                    have q676 : (gV τ667 23 0 150).toInt = (gV τ 23 0 150).toInt := congrArg Int32.toInt a675
                    have a677 : gV τ667 23 0 188 = (gV τ 23 0 188) := (show gV τ667 23 0 188 = (gV τ 23 0 188) from gV_put eτ667 a656)
                    have q678 : (gV τ667 23 0 188).toInt = (gV τ 23 0 188).toInt := congrArg Int32.toInt a677
                    have a679 : gV τ667 22 0 11 = (gV τ611 22 0 11) := (show gV τ667 22 0 11 = (gV τ611 22 0 11) from gV_put eτ667 a658)
                    have q680 : (gV τ667 22 0 11).toInt = (gV τ611 22 0 11).toInt := congrArg Int32.toInt a679
                    have a681 : gV τ667 22 0 12 = (gV τ611 22 0 12) := (show gV τ667 22 0 12 = (gV τ611 22 0 12) from gV_put eτ667 a660)
                    have q682 : (gV τ667 22 0 12).toInt = (gV τ611 22 0 12).toInt := congrArg Int32.toInt a681
                    have a683 : gV τ667 22 0 16 = (gV τ611 22 0 16) := (show gV τ667 22 0 16 = (gV τ611 22 0 16) from gV_put eτ667 a662)
                    have q684 : (gV τ667 22 0 16).toInt = (gV τ611 22 0 16).toInt := congrArg Int32.toInt a683
                    have a685 : gV τ667 23 0 152 = x665 := (show gV τ667 23 0 152 = x665 from gV_put eτ667 (gV_self _ _ _ _ _))
                    have q686 : (gV τ667 23 0 152).toInt = x665.toInt := congrArg Int32.toInt a685
                    refine m_callV (n := 0) (ci := 11) (st := []) C (c_X12_takeSignE l G τ667 T N (tE T N (tE T N (tE T N (tE T N (tE T N i)))))  i668 v671 (fun h => absurd h (by omega)) (by omega)) (by decide) (by decide) rfl rfl rfl q5_15 q5_12 q5_14 q0_32 q1_7 (by decide +kernel) rfl (by decide) (by decide) rfl (Nat.le_of_ble_eq_true rfl) dX12_takePerson_189 ?_
                    rintro _ τ687 ⟨rfl, i688, f689, h693⟩
                    have g692 : Fr MS_X12_takePersonE AS_X12_takePersonE σ τ687 := Fr.call (f669) f689 (by decide)
                    have v694 : CP (gV σ 23 0 152).toInt τ687 := v670.call (fun k => f689.1 23 0 k (by simp) (by decide))
                    have v695 : TpM τ687 T N := v671.fr f689 (by decide) (by decide) (by simp) (by decide)
                    have u696 : IV (gV τ687 22 0 11) 0 400 := i688.1 22 0 11
                    have a697 : gV τ687 22 0 6 = (gV τ 22 0 6) := (show gV τ687 22 0 6 = (gV τ 22 0 6) from (f689.1 22 0 (6) (by decide) (by decide)).trans a673)
                    have q698 : (gV τ687 22 0 6).toInt = (gV τ 22 0 6).toInt := congrArg Int32.toInt a697
                    have a699 : gV τ687 23 0 150 = (gV τ 23 0 150) := (show gV τ687 23 0 150 = (gV τ 23 0 150) from (f689.1 23 0 (150) (by decide) (by decide)).trans a675)
                    have q700 : (gV τ687 23 0 150).toInt = (gV τ 23 0 150).toInt := congrArg Int32.toInt a699
                    have a701 : gV τ687 23 0 188 = (gV τ 23 0 188) := (show gV τ687 23 0 188 = (gV τ 23 0 188) from (f689.1 23 0 (188) (by decide) (by decide)).trans a677)
                    have q702 : (gV τ687 23 0 188).toInt = (gV τ 23 0 188).toInt := congrArg Int32.toInt a701
                    have a703 : gV τ687 23 0 152 = x665 := (show gV τ687 23 0 152 = x665 from (f689.1 23 0 (152) (by decide) (by decide)).trans a685)
                    have q704 : (gV τ687 23 0 152).toInt = x665.toInt := congrArg Int32.toInt a703
                    rcases h693 with ⟨h693_0, h693_1, h693_2, h693_3⟩ | ⟨h693_0, h693_1, h693_2, h693_3, h693_4⟩ | ⟨h693_0, h693_1, h693_2, h693_3, h693_4, h693_5⟩
                    · skip
                      have v705 : CQ (gV σ 23 0 152).toInt.toNat τ687 := v672.call (fun q => by omega) (fun k => f689.1 23 0 k (by simp) (by decide))
                      show MW p l e _ s m args below meth c _ 4 G 0 0 192 [some (.ref (G.1 22 0)), some (.int y1), some (.int z0), some (.int x614)] [] τ687
                      exact m_vret C hr hlk (by decide) (by decide) dX12_takePerson_192 ⟨rfl, i688, g692, (by have qd := per_6 T N st cc i (by omega) (by omega) (by omega) (by omega) (by omega) (by omega) (by omega); exact Or.inl ⟨by omega, by omega, by omega, by omega, by omega, by omega⟩)⟩
                    · skip
                      exfalso; omega
                    · skip
                      exfalso; omega
                  · exfalso
                    have q : _ := c634
                    simp only [ti_nle, ti_nlt, ti_le, ti_lt, ti_eq, ti_ne, Classical.not_not, kt_99] at q
                    have q1 := b629; have q2 := kc_99; omega
                · skip
                  have b707 : IV x614 (-1) (-1) := ⟨by omega, by omega⟩
                  have v708 : CQ (gV σ 23 0 152).toInt.toNat τ611 := v602.call (fun q => by omega) (fun k => f613.1 23 0 k (by simp) (by decide))
                  have b709 : IV (gV τ611 22 0 16) 2 2 := ⟨by omega, by omega⟩
                  show MW p l e _ s m args below meth c _ 4 G 0 0 139 [some (.ref (G.1 22 0)), some (.int y1), some (.int z0), none] [.int x614] τ611
                  refine m_goto (tgt := 143) C dX12_takePerson_139 (by decide) ?_
                  refine m_istore_n (L1 := [some (.ref (G.1 22 0)), some (.int y1), some (.int z0), some (.int x614)]) C dX12_takePerson_143 rfl (by decide) rfl rfl ?_
                  refine m_aload_n C dX12_takePerson_144 rfl rfl ?_
                  refine g_22_0 C q4_116 dX12_takePerson_145 ?_
                  refine m_sipush (v := 174) C dX12_takePerson_148 (by decide) ?_
                  refine m_iload_n C dX12_takePerson_151 rfl rfl ?_
                  refine m_iadd C dX12_takePerson_152 ?_
                  refine m_topi (fun x710 ex710 => ?_)
                  have tx710 : x710.toInt = 174 + y1.toInt := by rw [ex710, ti_addv kc_174 b_y1 (by decide), kt_174]
                  have b711 : IV x710 174 180 := by rw [ex710]; exact iv_add kc_174 b_y1 (by decide)
                  refine m_iload_n C dX12_takePerson_153 rfl rfl ?_
                  refine m_bipush (v := 99) C dX12_takePerson_154 (by decide) ?_
                  refine m_icmp_ne (tgt := 163) C dX12_takePerson_156 (by decide) (fun c712 => ?_) (fun c712 => ?_)
                  · have f713 : x614.toInt ≠ 99 := by
                      have q : _ := c712
                      simp only [ti_nle, ti_nlt, ti_le, ti_lt, ti_eq, ti_ne, Classical.not_not, kt_99] at q
                      omega
                    refine m_iload_n C dX12_takePerson_163 rfl rfl ?_
                    refine as_23 C b711 (by decide) rfl dX12_takePerson_164 ?_
                    refine m_tops (fun τ714 eτ714 => ?_)
                    have i715 : Inv τ714 := eτ714 ▸ Inv.putRo i612 (by omega)
                    have f716 : Fr MS_X12_takePersonE AS_X12_takePersonE σ τ714 := eτ714 ▸ Fr.put (g616) (Or.inr (by decide))
                    have v717 : CP (gV σ 23 0 152).toInt τ714 := v618.put eτ714 (Or.inr (fun q hq => by omega))
                    have v718 : TpM τ714 T N := v619.put eτ714 (Or.inl (by decide)) (by decide)
                    have v719 : CQ (gV σ 23 0 152).toInt.toNat τ714 := v708.put eτ714 (Or.inl (by decide)) (Or.inr (by omega))
                    refine m_aload_n C dX12_takePerson_165 rfl rfl ?_
                    refine g_22_0 C q4_116 dX12_takePerson_166 ?_
                    refine m_sipush (v := 181) C dX12_takePerson_169 (by decide) ?_
                    refine m_iload_n C dX12_takePerson_172 rfl rfl ?_
                    refine m_iadd C dX12_takePerson_173 ?_
                    refine m_topi (fun x720 ex720 => ?_)
                    have tx720 : x720.toInt = 181 + y1.toInt := by rw [ex720, ti_addv kc_181 b_y1 (by decide), kt_181]
                    have b721 : IV x720 181 187 := by rw [ex720]; exact iv_add kc_181 b_y1 (by decide)
                    refine m_iconst (v := 0) C dX12_takePerson_174 (by decide) ?_
                    refine as_23 C b721 (by decide) rfl dX12_takePerson_175 ?_
                    refine m_tops (fun τ722 eτ722 => ?_)
                    have i723 : Inv τ722 := eτ722 ▸ Inv.putR0 i715 (by omega) kt_0
                    have f724 : Fr MS_X12_takePersonE AS_X12_takePersonE σ τ722 := eτ722 ▸ Fr.put (f716) (Or.inr (by decide))
                    have v725 : CP (gV σ 23 0 152).toInt τ722 := v717.put eτ722 (Or.inr (fun q hq => by omega))
                    have v726 : TpM τ722 T N := v718.put eτ722 (Or.inl (by decide)) (by decide)
                    have v727 : CQ (gV σ 23 0 152).toInt.toNat τ722 := v719.put eτ722 (Or.inl (by decide)) (Or.inr (by omega))
                    refine m_aload_n C dX12_takePerson_176 rfl rfl ?_
                    refine g_22_0 C q4_116 dX12_takePerson_177 ?_
                    refine m_sipush (v := 152) C dX12_takePerson_180 (by decide) ?_
                    refine m_dup2 C dX12_takePerson_183 rfl rfl ?_
                    refine al_23 C kc_152 (by decide) kn_152 dX12_takePerson_184 ?_
                    refine m_eqs (w := (gV τ 23 0 152)) (show gV τ722 23 0 152 = (gV τ 23 0 152) from (gV_putn eτ722 (Or.inr (Or.inr (nat_ne b721 (by decide))))).trans (show gV τ714 23 0 152 = (gV τ 23 0 152) from (gV_putn eτ714 (Or.inr (Or.inr (nat_ne b711 (by decide))))).trans a625)) ?_
                    refine m_iconst (v := 1) C dX12_takePerson_185 (by decide) ?_
                    have a728 : gV τ722 22 0 6 = (gV τ 22 0 6) := (show gV τ722 22 0 6 = (gV τ 22 0 6) from gV_put eτ722 (show gV τ714 22 0 6 = (gV τ 22 0 6) from gV_put eτ714 a621))
                    have q729 : (gV τ722 22 0 6).toInt = (gV τ 22 0 6).toInt := congrArg Int32.toInt a728
                    have a730 : gV τ722 23 0 150 = (gV τ 23 0 150) := (show gV τ722 23 0 150 = (gV τ 23 0 150) from (gV_putn eτ722 (Or.inr (Or.inr (nat_ne b721 (by decide))))).trans (show gV τ714 23 0 150 = (gV τ 23 0 150) from (gV_putn eτ714 (Or.inr (Or.inr (nat_ne b711 (by decide))))).trans a623))
                    have q731 : (gV τ722 23 0 150).toInt = (gV τ 23 0 150).toInt := congrArg Int32.toInt a730
                    have a732 : gV τ722 23 0 152 = (gV τ 23 0 152) := (show gV τ722 23 0 152 = (gV τ 23 0 152) from (gV_putn eτ722 (Or.inr (Or.inr (nat_ne b721 (by decide))))).trans (show gV τ714 23 0 152 = (gV τ 23 0 152) from (gV_putn eτ714 (Or.inr (Or.inr (nat_ne b711 (by decide))))).trans a625))
                    have q733 : (gV τ722 23 0 152).toInt = (gV τ 23 0 152).toInt := congrArg Int32.toInt a732
                    have a734 : gV τ722 23 0 188 = (gV τ 23 0 188) := (show gV τ722 23 0 188 = (gV τ 23 0 188) from (gV_putn eτ722 (Or.inr (Or.inr (nat_ne b721 (by decide))))).trans (show gV τ714 23 0 188 = (gV τ 23 0 188) from (gV_putn eτ714 (Or.inr (Or.inr (nat_ne b711 (by decide))))).trans a627))
                    have q735 : (gV τ722 23 0 188).toInt = (gV τ 23 0 188).toInt := congrArg Int32.toInt a734
                    have a736 : gV τ722 22 0 11 = (gV τ611 22 0 11) := (show gV τ722 22 0 11 = (gV τ611 22 0 11) from gV_put eτ722 (show gV τ714 22 0 11 = (gV τ611 22 0 11) from gV_put eτ714 rfl))
                    have q737 : (gV τ722 22 0 11).toInt = (gV τ611 22 0 11).toInt := congrArg Int32.toInt a736
                    have a738 : gV τ722 22 0 12 = (gV τ611 22 0 12) := (show gV τ722 22 0 12 = (gV τ611 22 0 12) from gV_put eτ722 (show gV τ714 22 0 12 = (gV τ611 22 0 12) from gV_put eτ714 rfl))
                    have q739 : (gV τ722 22 0 12).toInt = (gV τ611 22 0 12).toInt := congrArg Int32.toInt a738
                    have a740 : gV τ722 22 0 16 = (gV τ611 22 0 16) := (show gV τ722 22 0 16 = (gV τ611 22 0 16) from gV_put eτ722 (show gV τ714 22 0 16 = (gV τ611 22 0 16) from gV_put eτ714 rfl))
                    have q741 : (gV τ722 22 0 16).toInt = (gV τ611 22 0 16).toInt := congrArg Int32.toInt a740
                    have b742 : IV (gV τ 23 0 152) 0 6 := ⟨by have q1 := u3; omega, by have q1 := u3; omega⟩
                    refine m_iadd C dX12_takePerson_186 ?_
                    refine m_topi (fun x743 ex743 => ?_)
                    have tx743 : x743.toInt = (gV τ 23 0 152).toInt + 1 := by rw [ex743, ti_addv b742 kc_1 (by decide), kt_1]
                    have b744 : IV x743 1 7 := by rw [ex743]; exact iv_add b742 kc_1 (by decide)
                    refine as_23 C kc_152 (by decide) kn_152 dX12_takePerson_187 ?_
                    refine m_tops (fun τ745 eτ745 => ?_)
                    have i746 : Inv τ745 := eτ745 ▸ Inv.putR i723 (by decide) (iv_wk b744 (by decide))
                    have f747 : Fr MS_X12_takePersonE AS_X12_takePersonE σ τ745 := eτ745 ▸ Fr.put (f724) (Or.inr (by decide))
                    have v748 : CP (gV σ 23 0 152).toInt τ745 := v725.put eτ745 (Or.inr (fun q hq => by omega))
                    have v749 : TpM τ745 T N := v726.put eτ745 (Or.inl (by decide)) (by decide)
                    have v750 : CQ (gV σ 23 0 152).toInt.toNat τ745 := v727.put eτ745 (Or.inl (by decide)) (Or.inr (by omega))
                    refine m_aload_n C dX12_takePerson_188 rfl rfl ?_
                    clear q729 q731 q733 q735 q737 q739 q741
                    have a751 : gV τ745 22 0 6 = (gV τ 22 0 6) := (show gV τ745 22 0 6 = (gV τ 22 0 6) from gV_put eτ745 a728)
                    have q752 : (gV τ745 22 0 6).toInt = (gV τ 22 0 6).toInt := congrArg Int32.toInt a751
                    have a753 : gV τ745 23 0 150 = (gV τ 23 0 150) := (show gV τ745 23 0 150 = (gV τ 23 0 150) from gV_put eτ745 a730)
                    have q754 : (gV τ745 23 0 150).toInt = (gV τ 23 0 150).toInt := congrArg Int32.toInt a753
                    have a755 : gV τ745 23 0 188 = (gV τ 23 0 188) := (show gV τ745 23 0 188 = (gV τ 23 0 188) from gV_put eτ745 a734)
                    have q756 : (gV τ745 23 0 188).toInt = (gV τ 23 0 188).toInt := congrArg Int32.toInt a755
                    have a757 : gV τ745 22 0 11 = (gV τ611 22 0 11) := (show gV τ745 22 0 11 = (gV τ611 22 0 11) from gV_put eτ745 a736)
                    have q758 : (gV τ745 22 0 11).toInt = (gV τ611 22 0 11).toInt := congrArg Int32.toInt a757
                    have a759 : gV τ745 22 0 12 = (gV τ611 22 0 12) := (show gV τ745 22 0 12 = (gV τ611 22 0 12) from gV_put eτ745 a738)
                    have q760 : (gV τ745 22 0 12).toInt = (gV τ611 22 0 12).toInt := congrArg Int32.toInt a759
                    have a761 : gV τ745 22 0 16 = (gV τ611 22 0 16) := (show gV τ745 22 0 16 = (gV τ611 22 0 16) from gV_put eτ745 a740)
                    have q762 : (gV τ745 22 0 16).toInt = (gV τ611 22 0 16).toInt := congrArg Int32.toInt a761
                    have a763 : gV τ745 23 0 152 = x743 := (show gV τ745 23 0 152 = x743 from gV_put eτ745 (gV_self _ _ _ _ _))
                    have q764 : (gV τ745 23 0 152).toInt = x743.toInt := congrArg Int32.toInt a763
                    refine m_callV (n := 0) (ci := 11) (st := []) C (c_X12_takeSignE l G τ745 T N (tE T N (tE T N (tE T N (tE T N (tE T N i)))))  i746 v749 (fun h => absurd h (by omega)) (by omega)) (by decide) (by decide) rfl rfl rfl q5_15 q5_12 q5_14 q0_32 q1_7 (by decide +kernel) rfl (by decide) (by decide) rfl (Nat.le_of_ble_eq_true rfl) dX12_takePerson_189 ?_
                    rintro _ τ765 ⟨rfl, i766, f767, h771⟩
                    have g770 : Fr MS_X12_takePersonE AS_X12_takePersonE σ τ765 := Fr.call (f747) f767 (by decide)
                    have v772 : CP (gV σ 23 0 152).toInt τ765 := v748.call (fun k => f767.1 23 0 k (by simp) (by decide))
                    have v773 : TpM τ765 T N := v749.fr f767 (by decide) (by decide) (by simp) (by decide)
                    have u774 : IV (gV τ765 22 0 11) 0 400 := i766.1 22 0 11
                    have a775 : gV τ765 22 0 6 = (gV τ 22 0 6) := (show gV τ765 22 0 6 = (gV τ 22 0 6) from (f767.1 22 0 (6) (by decide) (by decide)).trans a751)
                    have q776 : (gV τ765 22 0 6).toInt = (gV τ 22 0 6).toInt := congrArg Int32.toInt a775
                    have a777 : gV τ765 23 0 150 = (gV τ 23 0 150) := (show gV τ765 23 0 150 = (gV τ 23 0 150) from (f767.1 23 0 (150) (by decide) (by decide)).trans a753)
                    have q778 : (gV τ765 23 0 150).toInt = (gV τ 23 0 150).toInt := congrArg Int32.toInt a777
                    have a779 : gV τ765 23 0 188 = (gV τ 23 0 188) := (show gV τ765 23 0 188 = (gV τ 23 0 188) from (f767.1 23 0 (188) (by decide) (by decide)).trans a755)
                    have q780 : (gV τ765 23 0 188).toInt = (gV τ 23 0 188).toInt := congrArg Int32.toInt a779
                    have a781 : gV τ765 23 0 152 = x743 := (show gV τ765 23 0 152 = x743 from (f767.1 23 0 (152) (by decide) (by decide)).trans a763)
                    have q782 : (gV τ765 23 0 152).toInt = x743.toInt := congrArg Int32.toInt a781
                    rcases h771 with ⟨h771_0, h771_1, h771_2, h771_3⟩ | ⟨h771_0, h771_1, h771_2, h771_3, h771_4⟩ | ⟨h771_0, h771_1, h771_2, h771_3, h771_4, h771_5⟩
                    · skip
                      have v783 : CQ (gV σ 23 0 152).toInt.toNat τ765 := v750.call (fun q => by omega) (fun k => f767.1 23 0 k (by simp) (by decide))
                      show MW p l e _ s m args below meth c _ 4 G 0 0 192 [some (.ref (G.1 22 0)), some (.int y1), some (.int z0), some (.int x614)] [] τ765
                      exact m_vret C hr hlk (by decide) (by decide) dX12_takePerson_192 ⟨rfl, i766, g770, (by have qd := per_7 T N st cc i (by omega) (by omega) (by omega) (by omega) (by omega) (by omega) (by omega) (by omega); exact Or.inl ⟨by omega, by omega, by omega, by omega, by omega, by omega⟩)⟩
                    · skip
                      exfalso; omega
                    · skip
                      exfalso; omega
                  · exfalso
                    have q : _ := c712
                    simp only [ti_nle, ti_nlt, ti_le, ti_lt, ti_eq, ti_ne, Classical.not_not, kt_99] at q
                    have q1 := b707; have q2 := kc_99; omega
                · skip
                  have v785 : CQ (gV σ 23 0 152).toInt.toNat τ611 := v602.call (fun q => by omega) (fun k => f613.1 23 0 k (by simp) (by decide))
                  have v786 : CuM T N (tE T N (tE T N (tE T N (tE T N (tE T N i))))) τ611 := ⟨h617_4, h617_5⟩
                  clear h617_4
                  have b787 : IV (gV τ611 22 0 16) 0 0 := ⟨by omega, by omega⟩
                  show MW p l e _ s m args below meth c _ 4 G 0 0 139 [some (.ref (G.1 22 0)), some (.int y1), some (.int z0), none] [.int x614] τ611
                  refine m_goto (tgt := 143) C dX12_takePerson_139 (by decide) ?_
                  refine m_istore_n (L1 := [some (.ref (G.1 22 0)), some (.int y1), some (.int z0), some (.int x614)]) C dX12_takePerson_143 rfl (by decide) rfl rfl ?_
                  refine m_aload_n C dX12_takePerson_144 rfl rfl ?_
                  refine g_22_0 C q4_116 dX12_takePerson_145 ?_
                  refine m_sipush (v := 174) C dX12_takePerson_148 (by decide) ?_
                  refine m_iload_n C dX12_takePerson_151 rfl rfl ?_
                  refine m_iadd C dX12_takePerson_152 ?_
                  refine m_topi (fun x788 ex788 => ?_)
                  have tx788 : x788.toInt = 174 + y1.toInt := by rw [ex788, ti_addv kc_174 b_y1 (by decide), kt_174]
                  have b789 : IV x788 174 180 := by rw [ex788]; exact iv_add kc_174 b_y1 (by decide)
                  refine m_iload_n C dX12_takePerson_153 rfl rfl ?_
                  refine m_bipush (v := 99) C dX12_takePerson_154 (by decide) ?_
                  refine m_icmp_ne (tgt := 163) C dX12_takePerson_156 (by decide) (fun c790 => ?_) (fun c790 => ?_)
                  · have f791 : x614.toInt ≠ 99 := by
                      have q : _ := c790
                      simp only [ti_nle, ti_nlt, ti_le, ti_lt, ti_eq, ti_ne, Classical.not_not, kt_99] at q
                      omega
                    refine m_iload_n C dX12_takePerson_163 rfl rfl ?_
                    refine as_23 C b789 (by decide) rfl dX12_takePerson_164 ?_
                    refine m_tops (fun τ792 eτ792 => ?_)
                    have i793 : Inv τ792 := eτ792 ▸ Inv.putRo i612 (by omega)
                    have f794 : Fr MS_X12_takePersonE AS_X12_takePersonE σ τ792 := eτ792 ▸ Fr.put (g616) (Or.inr (by decide))
                    have v795 : CP (gV σ 23 0 152).toInt τ792 := v618.put eτ792 (Or.inr (fun q hq => by omega))
                    have v796 : TpM τ792 T N := v619.put eτ792 (Or.inl (by decide)) (by decide)
                    have v797 : CQ (gV σ 23 0 152).toInt.toNat τ792 := v785.put eτ792 (Or.inl (by decide)) (Or.inr (by omega))
                    have v798 : LW T N (tE T N (tE T N (tE T N (tE T N (tE T N i))))) τ792.2.2.1 := by rw [eτ792]; exact h617_6
                    have v799 : CuM T N (tE T N (tE T N (tE T N (tE T N (tE T N i))))) τ792 := CuM.put v786 eτ792 (Or.inl (by decide))
                    refine m_aload_n C dX12_takePerson_165 rfl rfl ?_
                    refine g_22_0 C q4_116 dX12_takePerson_166 ?_
                    refine m_sipush (v := 181) C dX12_takePerson_169 (by decide) ?_
                    refine m_iload_n C dX12_takePerson_172 rfl rfl ?_
                    refine m_iadd C dX12_takePerson_173 ?_
                    refine m_topi (fun x800 ex800 => ?_)
                    have tx800 : x800.toInt = 181 + y1.toInt := by rw [ex800, ti_addv kc_181 b_y1 (by decide), kt_181]
                    have b801 : IV x800 181 187 := by rw [ex800]; exact iv_add kc_181 b_y1 (by decide)
                    refine m_iconst (v := 0) C dX12_takePerson_174 (by decide) ?_
                    refine as_23 C b801 (by decide) rfl dX12_takePerson_175 ?_
                    refine m_tops (fun τ802 eτ802 => ?_)
                    have i803 : Inv τ802 := eτ802 ▸ Inv.putR0 i793 (by omega) kt_0
                    have f804 : Fr MS_X12_takePersonE AS_X12_takePersonE σ τ802 := eτ802 ▸ Fr.put (f794) (Or.inr (by decide))
                    have v805 : CP (gV σ 23 0 152).toInt τ802 := v795.put eτ802 (Or.inr (fun q hq => by omega))
                    have v806 : TpM τ802 T N := v796.put eτ802 (Or.inl (by decide)) (by decide)
                    have v807 : CQ (gV σ 23 0 152).toInt.toNat τ802 := v797.put eτ802 (Or.inl (by decide)) (Or.inr (by omega))
                    have v808 : LW T N (tE T N (tE T N (tE T N (tE T N (tE T N i))))) τ802.2.2.1 := by rw [eτ802]; exact v798
                    have v809 : CuM T N (tE T N (tE T N (tE T N (tE T N (tE T N i))))) τ802 := CuM.put v799 eτ802 (Or.inl (by decide))
                    refine m_aload_n C dX12_takePerson_176 rfl rfl ?_
                    refine g_22_0 C q4_116 dX12_takePerson_177 ?_
                    refine m_sipush (v := 152) C dX12_takePerson_180 (by decide) ?_
                    refine m_dup2 C dX12_takePerson_183 rfl rfl ?_
                    refine al_23 C kc_152 (by decide) kn_152 dX12_takePerson_184 ?_
                    refine m_eqs (w := (gV τ 23 0 152)) (show gV τ802 23 0 152 = (gV τ 23 0 152) from (gV_putn eτ802 (Or.inr (Or.inr (nat_ne b801 (by decide))))).trans (show gV τ792 23 0 152 = (gV τ 23 0 152) from (gV_putn eτ792 (Or.inr (Or.inr (nat_ne b789 (by decide))))).trans a625)) ?_
                    refine m_iconst (v := 1) C dX12_takePerson_185 (by decide) ?_
                    have a810 : gV τ802 22 0 6 = (gV τ 22 0 6) := (show gV τ802 22 0 6 = (gV τ 22 0 6) from gV_put eτ802 (show gV τ792 22 0 6 = (gV τ 22 0 6) from gV_put eτ792 a621))
                    have q811 : (gV τ802 22 0 6).toInt = (gV τ 22 0 6).toInt := congrArg Int32.toInt a810
                    have a812 : gV τ802 23 0 150 = (gV τ 23 0 150) := (show gV τ802 23 0 150 = (gV τ 23 0 150) from (gV_putn eτ802 (Or.inr (Or.inr (nat_ne b801 (by decide))))).trans (show gV τ792 23 0 150 = (gV τ 23 0 150) from (gV_putn eτ792 (Or.inr (Or.inr (nat_ne b789 (by decide))))).trans a623))
                    have q813 : (gV τ802 23 0 150).toInt = (gV τ 23 0 150).toInt := congrArg Int32.toInt a812
                    have a814 : gV τ802 23 0 152 = (gV τ 23 0 152) := (show gV τ802 23 0 152 = (gV τ 23 0 152) from (gV_putn eτ802 (Or.inr (Or.inr (nat_ne b801 (by decide))))).trans (show gV τ792 23 0 152 = (gV τ 23 0 152) from (gV_putn eτ792 (Or.inr (Or.inr (nat_ne b789 (by decide))))).trans a625))
                    have q815 : (gV τ802 23 0 152).toInt = (gV τ 23 0 152).toInt := congrArg Int32.toInt a814
                    have a816 : gV τ802 23 0 188 = (gV τ 23 0 188) := (show gV τ802 23 0 188 = (gV τ 23 0 188) from (gV_putn eτ802 (Or.inr (Or.inr (nat_ne b801 (by decide))))).trans (show gV τ792 23 0 188 = (gV τ 23 0 188) from (gV_putn eτ792 (Or.inr (Or.inr (nat_ne b789 (by decide))))).trans a627))
                    have q817 : (gV τ802 23 0 188).toInt = (gV τ 23 0 188).toInt := congrArg Int32.toInt a816
                    have a818 : gV τ802 22 0 11 = (gV τ611 22 0 11) := (show gV τ802 22 0 11 = (gV τ611 22 0 11) from gV_put eτ802 (show gV τ792 22 0 11 = (gV τ611 22 0 11) from gV_put eτ792 rfl))
                    have q819 : (gV τ802 22 0 11).toInt = (gV τ611 22 0 11).toInt := congrArg Int32.toInt a818
                    have a820 : gV τ802 22 0 12 = (gV τ611 22 0 12) := (show gV τ802 22 0 12 = (gV τ611 22 0 12) from gV_put eτ802 (show gV τ792 22 0 12 = (gV τ611 22 0 12) from gV_put eτ792 rfl))
                    have q821 : (gV τ802 22 0 12).toInt = (gV τ611 22 0 12).toInt := congrArg Int32.toInt a820
                    have a822 : gV τ802 22 0 16 = (gV τ611 22 0 16) := (show gV τ802 22 0 16 = (gV τ611 22 0 16) from gV_put eτ802 (show gV τ792 22 0 16 = (gV τ611 22 0 16) from gV_put eτ792 rfl))
                    have q823 : (gV τ802 22 0 16).toInt = (gV τ611 22 0 16).toInt := congrArg Int32.toInt a822
                    have b824 : IV (gV τ 23 0 152) 0 6 := ⟨by have q1 := u3; omega, by have q1 := u3; omega⟩
                    refine m_iadd C dX12_takePerson_186 ?_
                    refine m_topi (fun x825 ex825 => ?_)
                    have tx825 : x825.toInt = (gV τ 23 0 152).toInt + 1 := by rw [ex825, ti_addv b824 kc_1 (by decide), kt_1]
                    have b826 : IV x825 1 7 := by rw [ex825]; exact iv_add b824 kc_1 (by decide)
                    refine as_23 C kc_152 (by decide) kn_152 dX12_takePerson_187 ?_
                    refine m_tops (fun τ827 eτ827 => ?_)
                    have i828 : Inv τ827 := eτ827 ▸ Inv.putR i803 (by decide) (iv_wk b826 (by decide))
                    have f829 : Fr MS_X12_takePersonE AS_X12_takePersonE σ τ827 := eτ827 ▸ Fr.put (f804) (Or.inr (by decide))
                    have v830 : CP (gV σ 23 0 152).toInt τ827 := v805.put eτ827 (Or.inr (fun q hq => by omega))
                    have v831 : TpM τ827 T N := v806.put eτ827 (Or.inl (by decide)) (by decide)
                    have v832 : CQ (gV σ 23 0 152).toInt.toNat τ827 := v807.put eτ827 (Or.inl (by decide)) (Or.inr (by omega))
                    have v833 : LW T N (tE T N (tE T N (tE T N (tE T N (tE T N i))))) τ827.2.2.1 := by rw [eτ827]; exact v808
                    have v834 : CuM T N (tE T N (tE T N (tE T N (tE T N (tE T N i))))) τ827 := CuM.put v809 eτ827 (Or.inl (by decide))
                    refine m_aload_n C dX12_takePerson_188 rfl rfl ?_
                    clear q811 q813 q815 q817 q819 q821 q823
                    have a835 : gV τ827 22 0 6 = (gV τ 22 0 6) := (show gV τ827 22 0 6 = (gV τ 22 0 6) from gV_put eτ827 a810)
                    have q836 : (gV τ827 22 0 6).toInt = (gV τ 22 0 6).toInt := congrArg Int32.toInt a835
                    have a837 : gV τ827 23 0 150 = (gV τ 23 0 150) := (show gV τ827 23 0 150 = (gV τ 23 0 150) from gV_put eτ827 a812)
                    have q838 : (gV τ827 23 0 150).toInt = (gV τ 23 0 150).toInt := congrArg Int32.toInt a837
                    have a839 : gV τ827 23 0 188 = (gV τ 23 0 188) := (show gV τ827 23 0 188 = (gV τ 23 0 188) from gV_put eτ827 a816)
                    have q840 : (gV τ827 23 0 188).toInt = (gV τ 23 0 188).toInt := congrArg Int32.toInt a839
                    have a841 : gV τ827 22 0 11 = (gV τ611 22 0 11) := (show gV τ827 22 0 11 = (gV τ611 22 0 11) from gV_put eτ827 a818)
                    have q842 : (gV τ827 22 0 11).toInt = (gV τ611 22 0 11).toInt := congrArg Int32.toInt a841
                    have a843 : gV τ827 22 0 12 = (gV τ611 22 0 12) := (show gV τ827 22 0 12 = (gV τ611 22 0 12) from gV_put eτ827 a820)
                    have q844 : (gV τ827 22 0 12).toInt = (gV τ611 22 0 12).toInt := congrArg Int32.toInt a843
                    have a845 : gV τ827 22 0 16 = (gV τ611 22 0 16) := (show gV τ827 22 0 16 = (gV τ611 22 0 16) from gV_put eτ827 a822)
                    have q846 : (gV τ827 22 0 16).toInt = (gV τ611 22 0 16).toInt := congrArg Int32.toInt a845
                    have a847 : gV τ827 23 0 152 = x825 := (show gV τ827 23 0 152 = x825 from gV_put eτ827 (gV_self _ _ _ _ _))
                    have q848 : (gV τ827 23 0 152).toInt = x825.toInt := congrArg Int32.toInt a847
                    refine m_callV (n := 0) (ci := 11) (st := []) C (c_X12_takeSignE l G τ827 T N (tE T N (tE T N (tE T N (tE T N (tE T N i)))))  i828 v831 (fun _ => v834.1) (by omega)) (by decide) (by decide) rfl rfl rfl q5_15 q5_12 q5_14 q0_32 q1_7 (by decide +kernel) rfl (by decide) (by decide) rfl (Nat.le_of_ble_eq_true rfl) dX12_takePerson_189 ?_
                    rintro _ τ849 ⟨rfl, i850, f851, h855⟩
                    have g854 : Fr MS_X12_takePersonE AS_X12_takePersonE σ τ849 := Fr.call (f829) f851 (by decide)
                    have v856 : CP (gV σ 23 0 152).toInt τ849 := v830.call (fun k => f851.1 23 0 k (by simp) (by decide))
                    have v857 : TpM τ849 T N := v831.fr f851 (by decide) (by decide) (by simp) (by decide)
                    have u858 : IV (gV τ849 22 0 11) 0 400 := i850.1 22 0 11
                    have a859 : gV τ849 22 0 6 = (gV τ 22 0 6) := (show gV τ849 22 0 6 = (gV τ 22 0 6) from (f851.1 22 0 (6) (by decide) (by decide)).trans a835)
                    have q860 : (gV τ849 22 0 6).toInt = (gV τ 22 0 6).toInt := congrArg Int32.toInt a859
                    have a861 : gV τ849 23 0 150 = (gV τ 23 0 150) := (show gV τ849 23 0 150 = (gV τ 23 0 150) from (f851.1 23 0 (150) (by decide) (by decide)).trans a837)
                    have q862 : (gV τ849 23 0 150).toInt = (gV τ 23 0 150).toInt := congrArg Int32.toInt a861
                    have a863 : gV τ849 23 0 188 = (gV τ 23 0 188) := (show gV τ849 23 0 188 = (gV τ 23 0 188) from (f851.1 23 0 (188) (by decide) (by decide)).trans a839)
                    have q864 : (gV τ849 23 0 188).toInt = (gV τ 23 0 188).toInt := congrArg Int32.toInt a863
                    have a865 : gV τ849 23 0 152 = x825 := (show gV τ849 23 0 152 = x825 from (f851.1 23 0 (152) (by decide) (by decide)).trans a847)
                    have q866 : (gV τ849 23 0 152).toInt = x825.toInt := congrArg Int32.toInt a865
                    rcases h855 with ⟨h855_0, h855_1, h855_2, h855_3⟩ | ⟨h855_0, h855_1, h855_2, h855_3, h855_4⟩ | ⟨h855_0, h855_1, h855_2, h855_3, h855_4, h855_5⟩
                    · skip
                      exfalso; omega
                    · skip
                      have v867 : CQ (gV σ 23 0 152).toInt.toNat τ849 := v832.call (fun q => by omega) (fun k => f851.1 23 0 k (by simp) (by decide))
                      have b868 : IV (gV τ849 22 0 16) 1 1 := ⟨by omega, by omega⟩
                      show MW p l e _ s m args below meth c _ 4 G 0 0 192 [some (.ref (G.1 22 0)), some (.int y1), some (.int z0), some (.int x614)] [] τ849
                      exact m_vret C hr hlk (by decide) (by decide) dX12_takePerson_192 ⟨rfl, i850, g854, (by have qd := per_8 T N st cc i (by omega) (by omega) (by omega) (by omega) (by omega) (by omega) (by omega) (by omega) (by omega); exact Or.inl ⟨by omega, by omega, by omega, by omega, by omega, by omega⟩)⟩
                    · skip
                      have v869 : CQ (gV σ 23 0 152).toInt.toNat τ849 := v832.call (fun q => by omega) (fun k => f851.1 23 0 k (by simp) (by decide))
                      have b870 : IV (gV τ849 22 0 16) 0 0 := ⟨by omega, by omega⟩
                      have v871 : CuM T N (tE T N (tE T N (tE T N (tE T N (tE T N (tE T N i)))))) τ849 := ⟨h855_3, h855_4⟩
                      clear h855_3
                      show MW p l e _ s m args below meth c _ 4 G 0 0 192 [some (.ref (G.1 22 0)), some (.int y1), some (.int z0), some (.int x614)] [] τ849
                      exact m_vret C hr hlk (by decide) (by decide) dX12_takePerson_192 ⟨rfl, i850, g854, (by have qd := per_ok T N st cc i (by omega) (by omega) (by omega) (by omega) (by omega) (by omega) (by omega) (by omega) (by omega); exact Or.inr ⟨by omega, by omega, by omega, v871.1, by omega, by omega, Pb.mk (by omega) v856 (v869 (by omega)) (by omega), h855_5⟩)⟩
                  · have f872 : x614.toInt = 99 := by
                      have q : _ := c790
                      simp only [ti_nle, ti_nlt, ti_le, ti_lt, ti_eq, ti_ne, Classical.not_not, kt_99] at q
                      omega
                    have b873 : IV x614 99 99 := ⟨by have q1 := b615; have q2 := kc_99; omega, by have q1 := b615; have q2 := kc_99; omega⟩
                    refine m_iconst (v := (-1)) C dX12_takePerson_159 (by decide) ?_
                    refine m_goto (tgt := 164) C dX12_takePerson_160 (by decide) ?_
                    refine as_23 C b789 (by decide) rfl dX12_takePerson_164 ?_
                    refine m_tops (fun τ874 eτ874 => ?_)
                    have i875 : Inv τ874 := eτ874 ▸ Inv.putRo i612 (by omega)
                    have f876 : Fr MS_X12_takePersonE AS_X12_takePersonE σ τ874 := eτ874 ▸ Fr.put (g616) (Or.inr (by decide))
                    have v877 : CP (gV σ 23 0 152).toInt τ874 := v618.put eτ874 (Or.inr (fun q hq => by omega))
                    have v878 : TpM τ874 T N := v619.put eτ874 (Or.inl (by decide)) (by decide)
                    have v879 : CQ (gV σ 23 0 152).toInt.toNat τ874 := v785.put eτ874 (Or.inl (by decide)) (Or.inr (by omega))
                    have v880 : LW T N (tE T N (tE T N (tE T N (tE T N (tE T N i))))) τ874.2.2.1 := by rw [eτ874]; exact h617_6
                    have v881 : CuM T N (tE T N (tE T N (tE T N (tE T N (tE T N i))))) τ874 := CuM.put v786 eτ874 (Or.inl (by decide))
                    refine m_aload_n C dX12_takePerson_165 rfl rfl ?_
                    refine g_22_0 C q4_116 dX12_takePerson_166 ?_
                    refine m_sipush (v := 181) C dX12_takePerson_169 (by decide) ?_
                    refine m_iload_n C dX12_takePerson_172 rfl rfl ?_
                    refine m_iadd C dX12_takePerson_173 ?_
                    refine m_topi (fun x882 ex882 => ?_)
                    have tx882 : x882.toInt = 181 + y1.toInt := by rw [ex882, ti_addv kc_181 b_y1 (by decide), kt_181]
                    have b883 : IV x882 181 187 := by rw [ex882]; exact iv_add kc_181 b_y1 (by decide)
                    refine m_iconst (v := 0) C dX12_takePerson_174 (by decide) ?_
                    refine as_23 C b883 (by decide) rfl dX12_takePerson_175 ?_
                    refine m_tops (fun τ884 eτ884 => ?_)
                    have i885 : Inv τ884 := eτ884 ▸ Inv.putR0 i875 (by omega) kt_0
                    have f886 : Fr MS_X12_takePersonE AS_X12_takePersonE σ τ884 := eτ884 ▸ Fr.put (f876) (Or.inr (by decide))
                    have v887 : CP (gV σ 23 0 152).toInt τ884 := v877.put eτ884 (Or.inr (fun q hq => by omega))
                    have v888 : TpM τ884 T N := v878.put eτ884 (Or.inl (by decide)) (by decide)
                    have v889 : CQ (gV σ 23 0 152).toInt.toNat τ884 := v879.put eτ884 (Or.inl (by decide)) (Or.inr (by omega))
                    have v890 : LW T N (tE T N (tE T N (tE T N (tE T N (tE T N i))))) τ884.2.2.1 := by rw [eτ884]; exact v880
                    have v891 : CuM T N (tE T N (tE T N (tE T N (tE T N (tE T N i))))) τ884 := CuM.put v881 eτ884 (Or.inl (by decide))
                    refine m_aload_n C dX12_takePerson_176 rfl rfl ?_
                    refine g_22_0 C q4_116 dX12_takePerson_177 ?_
                    refine m_sipush (v := 152) C dX12_takePerson_180 (by decide) ?_
                    refine m_dup2 C dX12_takePerson_183 rfl rfl ?_
                    refine al_23 C kc_152 (by decide) kn_152 dX12_takePerson_184 ?_
                    refine m_eqs (w := (gV τ 23 0 152)) (show gV τ884 23 0 152 = (gV τ 23 0 152) from (gV_putn eτ884 (Or.inr (Or.inr (nat_ne b883 (by decide))))).trans (show gV τ874 23 0 152 = (gV τ 23 0 152) from (gV_putn eτ874 (Or.inr (Or.inr (nat_ne b789 (by decide))))).trans a625)) ?_
                    refine m_iconst (v := 1) C dX12_takePerson_185 (by decide) ?_
                    have a892 : gV τ884 22 0 6 = (gV τ 22 0 6) := (show gV τ884 22 0 6 = (gV τ 22 0 6) from gV_put eτ884 (show gV τ874 22 0 6 = (gV τ 22 0 6) from gV_put eτ874 a621))
                    have q893 : (gV τ884 22 0 6).toInt = (gV τ 22 0 6).toInt := congrArg Int32.toInt a892
                    have a894 : gV τ884 23 0 150 = (gV τ 23 0 150) := (show gV τ884 23 0 150 = (gV τ 23 0 150) from (gV_putn eτ884 (Or.inr (Or.inr (nat_ne b883 (by decide))))).trans (show gV τ874 23 0 150 = (gV τ 23 0 150) from (gV_putn eτ874 (Or.inr (Or.inr (nat_ne b789 (by decide))))).trans a623))
                    have q895 : (gV τ884 23 0 150).toInt = (gV τ 23 0 150).toInt := congrArg Int32.toInt a894
                    have a896 : gV τ884 23 0 152 = (gV τ 23 0 152) := (show gV τ884 23 0 152 = (gV τ 23 0 152) from (gV_putn eτ884 (Or.inr (Or.inr (nat_ne b883 (by decide))))).trans (show gV τ874 23 0 152 = (gV τ 23 0 152) from (gV_putn eτ874 (Or.inr (Or.inr (nat_ne b789 (by decide))))).trans a625))
                    have q897 : (gV τ884 23 0 152).toInt = (gV τ 23 0 152).toInt := congrArg Int32.toInt a896
                    have a898 : gV τ884 23 0 188 = (gV τ 23 0 188) := (show gV τ884 23 0 188 = (gV τ 23 0 188) from (gV_putn eτ884 (Or.inr (Or.inr (nat_ne b883 (by decide))))).trans (show gV τ874 23 0 188 = (gV τ 23 0 188) from (gV_putn eτ874 (Or.inr (Or.inr (nat_ne b789 (by decide))))).trans a627))
                    have q899 : (gV τ884 23 0 188).toInt = (gV τ 23 0 188).toInt := congrArg Int32.toInt a898
                    have a900 : gV τ884 22 0 11 = (gV τ611 22 0 11) := (show gV τ884 22 0 11 = (gV τ611 22 0 11) from gV_put eτ884 (show gV τ874 22 0 11 = (gV τ611 22 0 11) from gV_put eτ874 rfl))
                    have q901 : (gV τ884 22 0 11).toInt = (gV τ611 22 0 11).toInt := congrArg Int32.toInt a900
                    have a902 : gV τ884 22 0 12 = (gV τ611 22 0 12) := (show gV τ884 22 0 12 = (gV τ611 22 0 12) from gV_put eτ884 (show gV τ874 22 0 12 = (gV τ611 22 0 12) from gV_put eτ874 rfl))
                    have q903 : (gV τ884 22 0 12).toInt = (gV τ611 22 0 12).toInt := congrArg Int32.toInt a902
                    have a904 : gV τ884 22 0 16 = (gV τ611 22 0 16) := (show gV τ884 22 0 16 = (gV τ611 22 0 16) from gV_put eτ884 (show gV τ874 22 0 16 = (gV τ611 22 0 16) from gV_put eτ874 rfl))
                    have q905 : (gV τ884 22 0 16).toInt = (gV τ611 22 0 16).toInt := congrArg Int32.toInt a904
                    have b906 : IV (gV τ 23 0 152) 0 6 := ⟨by have q1 := u3; omega, by have q1 := u3; omega⟩
                    refine m_iadd C dX12_takePerson_186 ?_
                    refine m_topi (fun x907 ex907 => ?_)
                    have tx907 : x907.toInt = (gV τ 23 0 152).toInt + 1 := by rw [ex907, ti_addv b906 kc_1 (by decide), kt_1]
                    have b908 : IV x907 1 7 := by rw [ex907]; exact iv_add b906 kc_1 (by decide)
                    refine as_23 C kc_152 (by decide) kn_152 dX12_takePerson_187 ?_
                    refine m_tops (fun τ909 eτ909 => ?_)
                    have i910 : Inv τ909 := eτ909 ▸ Inv.putR i885 (by decide) (iv_wk b908 (by decide))
                    have f911 : Fr MS_X12_takePersonE AS_X12_takePersonE σ τ909 := eτ909 ▸ Fr.put (f886) (Or.inr (by decide))
                    have v912 : CP (gV σ 23 0 152).toInt τ909 := v887.put eτ909 (Or.inr (fun q hq => by omega))
                    have v913 : TpM τ909 T N := v888.put eτ909 (Or.inl (by decide)) (by decide)
                    have v914 : CQ (gV σ 23 0 152).toInt.toNat τ909 := v889.put eτ909 (Or.inl (by decide)) (Or.inr (by omega))
                    have v915 : LW T N (tE T N (tE T N (tE T N (tE T N (tE T N i))))) τ909.2.2.1 := by rw [eτ909]; exact v890
                    have v916 : CuM T N (tE T N (tE T N (tE T N (tE T N (tE T N i))))) τ909 := CuM.put v891 eτ909 (Or.inl (by decide))
                    refine m_aload_n C dX12_takePerson_188 rfl rfl ?_
                    clear q893 q895 q897 q899 q901 q903 q905
                    have a917 : gV τ909 22 0 6 = (gV τ 22 0 6) := (show gV τ909 22 0 6 = (gV τ 22 0 6) from gV_put eτ909 a892)
                    have q918 : (gV τ909 22 0 6).toInt = (gV τ 22 0 6).toInt := congrArg Int32.toInt a917
                    have a919 : gV τ909 23 0 150 = (gV τ 23 0 150) := (show gV τ909 23 0 150 = (gV τ 23 0 150) from gV_put eτ909 a894)
                    have q920 : (gV τ909 23 0 150).toInt = (gV τ 23 0 150).toInt := congrArg Int32.toInt a919
                    have a921 : gV τ909 23 0 188 = (gV τ 23 0 188) := (show gV τ909 23 0 188 = (gV τ 23 0 188) from gV_put eτ909 a898)
                    have q922 : (gV τ909 23 0 188).toInt = (gV τ 23 0 188).toInt := congrArg Int32.toInt a921
                    have a923 : gV τ909 22 0 11 = (gV τ611 22 0 11) := (show gV τ909 22 0 11 = (gV τ611 22 0 11) from gV_put eτ909 a900)
                    have q924 : (gV τ909 22 0 11).toInt = (gV τ611 22 0 11).toInt := congrArg Int32.toInt a923
                    have a925 : gV τ909 22 0 12 = (gV τ611 22 0 12) := (show gV τ909 22 0 12 = (gV τ611 22 0 12) from gV_put eτ909 a902)
                    have q926 : (gV τ909 22 0 12).toInt = (gV τ611 22 0 12).toInt := congrArg Int32.toInt a925
                    have a927 : gV τ909 22 0 16 = (gV τ611 22 0 16) := (show gV τ909 22 0 16 = (gV τ611 22 0 16) from gV_put eτ909 a904)
                    have q928 : (gV τ909 22 0 16).toInt = (gV τ611 22 0 16).toInt := congrArg Int32.toInt a927
                    have a929 : gV τ909 23 0 152 = x907 := (show gV τ909 23 0 152 = x907 from gV_put eτ909 (gV_self _ _ _ _ _))
                    have q930 : (gV τ909 23 0 152).toInt = x907.toInt := congrArg Int32.toInt a929
                    refine m_callV (n := 0) (ci := 11) (st := []) C (c_X12_takeSignE l G τ909 T N (tE T N (tE T N (tE T N (tE T N (tE T N i)))))  i910 v913 (fun _ => v916.1) (by omega)) (by decide) (by decide) rfl rfl rfl q5_15 q5_12 q5_14 q0_32 q1_7 (by decide +kernel) rfl (by decide) (by decide) rfl (Nat.le_of_ble_eq_true rfl) dX12_takePerson_189 ?_
                    rintro _ τ931 ⟨rfl, i932, f933, h937⟩
                    have g936 : Fr MS_X12_takePersonE AS_X12_takePersonE σ τ931 := Fr.call (f911) f933 (by decide)
                    have v938 : CP (gV σ 23 0 152).toInt τ931 := v912.call (fun k => f933.1 23 0 k (by simp) (by decide))
                    have v939 : TpM τ931 T N := v913.fr f933 (by decide) (by decide) (by simp) (by decide)
                    have u940 : IV (gV τ931 22 0 11) 0 400 := i932.1 22 0 11
                    have a941 : gV τ931 22 0 6 = (gV τ 22 0 6) := (show gV τ931 22 0 6 = (gV τ 22 0 6) from (f933.1 22 0 (6) (by decide) (by decide)).trans a917)
                    have q942 : (gV τ931 22 0 6).toInt = (gV τ 22 0 6).toInt := congrArg Int32.toInt a941
                    have a943 : gV τ931 23 0 150 = (gV τ 23 0 150) := (show gV τ931 23 0 150 = (gV τ 23 0 150) from (f933.1 23 0 (150) (by decide) (by decide)).trans a919)
                    have q944 : (gV τ931 23 0 150).toInt = (gV τ 23 0 150).toInt := congrArg Int32.toInt a943
                    have a945 : gV τ931 23 0 188 = (gV τ 23 0 188) := (show gV τ931 23 0 188 = (gV τ 23 0 188) from (f933.1 23 0 (188) (by decide) (by decide)).trans a921)
                    have q946 : (gV τ931 23 0 188).toInt = (gV τ 23 0 188).toInt := congrArg Int32.toInt a945
                    have a947 : gV τ931 23 0 152 = x907 := (show gV τ931 23 0 152 = x907 from (f933.1 23 0 (152) (by decide) (by decide)).trans a929)
                    have q948 : (gV τ931 23 0 152).toInt = x907.toInt := congrArg Int32.toInt a947
                    rcases h937 with ⟨h937_0, h937_1, h937_2, h937_3⟩ | ⟨h937_0, h937_1, h937_2, h937_3, h937_4⟩ | ⟨h937_0, h937_1, h937_2, h937_3, h937_4, h937_5⟩
                    · skip
                      exfalso; omega
                    · skip
                      have v949 : CQ (gV σ 23 0 152).toInt.toNat τ931 := v914.call (fun q => by omega) (fun k => f933.1 23 0 k (by simp) (by decide))
                      have b950 : IV (gV τ931 22 0 16) 1 1 := ⟨by omega, by omega⟩
                      show MW p l e _ s m args below meth c _ 4 G 0 0 192 [some (.ref (G.1 22 0)), some (.int y1), some (.int z0), some (.int x614)] [] τ931
                      exact m_vret C hr hlk (by decide) (by decide) dX12_takePerson_192 ⟨rfl, i932, g936, (by have qd := per_8 T N st cc i (by omega) (by omega) (by omega) (by omega) (by omega) (by omega) (by omega) (by omega) (by omega); exact Or.inl ⟨by omega, by omega, by omega, by omega, by omega, by omega⟩)⟩
                    · skip
                      have v951 : CQ (gV σ 23 0 152).toInt.toNat τ931 := v914.call (fun q => by omega) (fun k => f933.1 23 0 k (by simp) (by decide))
                      have b952 : IV (gV τ931 22 0 16) 0 0 := ⟨by omega, by omega⟩
                      have v953 : CuM T N (tE T N (tE T N (tE T N (tE T N (tE T N (tE T N i)))))) τ931 := ⟨h937_3, h937_4⟩
                      clear h937_3
                      show MW p l e _ s m args below meth c _ 4 G 0 0 192 [some (.ref (G.1 22 0)), some (.int y1), some (.int z0), some (.int x614)] [] τ931
                      exact m_vret C hr hlk (by decide) (by decide) dX12_takePerson_192 ⟨rfl, i932, g936, (by have qd := per_ok T N st cc i (by omega) (by omega) (by omega) (by omega) (by omega) (by omega) (by omega) (by omega) (by omega); exact Or.inr ⟨by omega, by omega, by omega, v953.1, by omega, by omega, Pb.mk (by omega) v938 (v951 (by omega)) (by omega), h937_5⟩)⟩
      · exfalso
        have q : _ := c36
        simp only [ti_nle, ti_nlt, ti_le, ti_lt, ti_eq, ti_ne, Classical.not_not, kt_0] at q
        have q1 := b34; have q2 := kc_0; omega
  have u955 : IV (gV σ 22 0 11) 0 400 := hI.1 22 0 11
  have u956 : IV (gV σ 22 0 6) 0 400 := hI.1 22 0 6
  have u957 : IV (gV σ 23 0 152) 0 7 := hI.1 23 0 152
  have u958 : IV (gV σ 23 0 188) 0 4 := hI.1 23 0 188
  have q959 : (gV σ 22 0 6).toInt = (N : Int) := hT.1
  have q960 := hT.2.1
  have b961 : IV (gV σ 22 0 16) 0 0 := ⟨by omega, by omega⟩
  refine m_aload_n C dX12_takePerson_0 rfl rfl ?_
  refine g_22_0 C q4_116 dX12_takePerson_1 ?_
  refine m_sipush (v := 152) C dX12_takePerson_4 (by decide) ?_
  refine al_23 C kc_152 (by decide) kn_152 dX12_takePerson_7 ?_
  refine m_eqs (w := (gV σ 23 0 152)) rfl ?_
  refine m_istore_n (L1 := [some (.ref (G.1 22 0)), some (.int (gV σ 23 0 152)), none, none]) C dX12_takePerson_8 rfl (by decide) rfl rfl ?_
  refine m_iload_n C dX12_takePerson_9 rfl rfl ?_
  refine m_bipush (v := 7) C dX12_takePerson_10 (by decide) ?_
  refine m_icmp_ne (tgt := 21) C dX12_takePerson_12 (by decide) (fun c962 => ?_) (fun c962 => ?_)
  · have f963 : (gV σ 23 0 152).toInt ≠ 7 := by
      have q : _ := c962
      simp only [ti_nle, ti_nlt, ti_le, ti_lt, ti_eq, ti_ne, Classical.not_not, kt_7] at q
      omega
    have b964 : IV (gV σ 23 0 152) 0 6 := ⟨by have q1 := u957; have q2 := kc_7; omega, by have q1 := u957; have q2 := kc_7; omega⟩
    refine m_aload_n C dX12_takePerson_21 rfl rfl ?_
    refine m_callV (n := 0) (ci := 11) (st := []) C (c_X12_nextE l G σ T N (tE T N i)  hI hT (by have qc := hcur.1; omega)) (by decide) (by decide) rfl rfl rfl q4_231 q4_228 q4_230 q0_28 q1_7 (by decide +kernel) rfl (by decide) (by decide) rfl (Nat.le_of_ble_eq_true rfl) dX12_takePerson_22 ?_
    rintro _ τ965 ⟨rfl, i966, f967, h971⟩
    have g970 : Fr MS_X12_takePersonE AS_X12_takePersonE σ τ965 := Fr.call (Fr.rf) f967 (by decide)
    have v972 : CP (gV σ 23 0 152).toInt τ965 := (hPb.cp hI).call (fun k => f967.1 23 0 k (by simp) (by decide))
    have v973 : TpM τ965 T N := hT.fr f967 (by decide) (by decide) (by simp) (by decide)
    obtain ⟨h974, h976, v975⟩ := h971
    have v977 : CuM T N (tE T N i) τ965 := ⟨h974, h976⟩
    clear h974
    have u978 : IV (gV τ965 22 0 11) 0 400 := i966.1 22 0 11
    have a979 : gV τ965 22 0 16 = (gV σ 22 0 16) := (show gV τ965 22 0 16 = (gV σ 22 0 16) from (f967.1 22 0 (16) (by decide) (by decide)).trans rfl)
    have q980 : (gV τ965 22 0 16).toInt = (gV σ 22 0 16).toInt := congrArg Int32.toInt a979
    have a981 : gV τ965 22 0 6 = (gV σ 22 0 6) := (show gV τ965 22 0 6 = (gV σ 22 0 6) from (f967.1 22 0 (6) (by decide) (by decide)).trans rfl)
    have q982 : (gV τ965 22 0 6).toInt = (gV σ 22 0 6).toInt := congrArg Int32.toInt a981
    have a983 : gV τ965 23 0 150 = (gV σ 23 0 150) := (show gV τ965 23 0 150 = (gV σ 23 0 150) from (f967.1 23 0 (150) (by decide) (by decide)).trans rfl)
    have q984 : (gV τ965 23 0 150).toInt = (gV σ 23 0 150).toInt := congrArg Int32.toInt a983
    have a985 : gV τ965 23 0 152 = (gV σ 23 0 152) := (show gV τ965 23 0 152 = (gV σ 23 0 152) from (f967.1 23 0 (152) (by decide) (by decide)).trans rfl)
    have q986 : (gV τ965 23 0 152).toInt = (gV σ 23 0 152).toInt := congrArg Int32.toInt a985
    have a987 : gV τ965 23 0 188 = (gV σ 23 0 188) := (show gV τ965 23 0 188 = (gV σ 23 0 188) from (f967.1 23 0 (188) (by decide) (by decide)).trans rfl)
    have q988 : (gV τ965 23 0 188).toInt = (gV σ 23 0 188).toInt := congrArg Int32.toInt a987
    show MW p l e _ s m args below meth c _ 4 G 0 0 25 [some (.ref (G.1 22 0)), some (.int (gV σ 23 0 152)), none, none] [] τ965
    refine m_aload_n C dX12_takePerson_25 rfl rfl ?_
    refine g_22_13 C q4_129 dX12_takePerson_26 ?_
    refine m_topi (fun x989 ex989 => ?_)
    have q990 : (x989.toInt = 0 ↔ tK T N (tE T N i) = 1) := by have qc := v977.1; rw [ex989]; omega
    have q991 : (x989.toInt = 4 ↔ tK T N (tE T N i) = 0) := by have qc := v977.1; rw [ex989]; omega
    refine m_if_ne (tgt := 42) C dX12_takePerson_29 (by decide) (fun c992 => ?_) (fun c992 => ?_)
    · have f993 : x989.toInt ≠ 0 := by
        have q : _ := c992
        simp only [ti_nle, ti_nlt, ti_le, ti_lt, ti_eq, ti_ne, Classical.not_not, kt_0] at q
        omega
      have q994 : tQ T N (tE T N i) = 0 := by have qd := tQ_def T N (tE T N i); omega
      refine m_iconst (v := (-1)) C dX12_takePerson_42 (by decide) ?_
      exact J43 τ965 (gV σ 23 0 152) (-1) i966 g970 b964 (iv_wk kc_m1 (by decide)) v972 v973 ⟨v977, by omega, by omega, by omega, by omega, by omega, by omega, by omega⟩ (by have q := kt_m1; omega)
    · have f995 : x989.toInt = 0 := by
        have q : _ := c992
        simp only [ti_nle, ti_nlt, ti_le, ti_lt, ti_eq, ti_ne, Classical.not_not, kt_0] at q
        omega
      have b996 : IV x989 0 0 := ⟨by have q1 := (iv_any x989); have q2 := kc_0; omega, by have q1 := (iv_any x989); have q2 := kc_0; omega⟩
      refine m_aload_n C dX12_takePerson_32 rfl rfl ?_
      refine g_22_14 C q4_130 dX12_takePerson_33 ?_
      refine m_topl (fun w997 ew997 => ?_)
      have q998 : tK T N (tE T N i) = 1 := by omega
      have q999 : (w997.toInt = 17494690093 ↔ tW T N (tE T N i) 2 = 1) := by rw [ew997]; exact LW.at2 v975 q998
      have q1000 : (w997.toInt = 24416759 ↔ tW T N (tE T N i) 3 = 1) := by rw [ew997]; exact LW.at3 v975 q998
      have q1001 : (w997.toInt = 2553 ↔ tW T N (tE T N i) 4 = 1) := by rw [ew997]; exact LW.at4 v975 q998
      have q1002 : (w997.toInt = 441803 ↔ tW T N (tE T N i) 5 = 1) := by rw [ew997]; exact LW.at5 v975 q998
      have q1003 : (w997.toInt = 77177328 ↔ tW T N (tE T N i) 6 = 1) := by rw [ew997]; exact LW.at6 v975 q998
      refine m_callS (n := 1) (st := []) C (c_X12_sortOfE l G τ965 (w997) i966 ) q5_23 q5_21 q5_22 q1_7 (by decide +kernel) rfl (by decide) (by decide) rfl (Nat.le_of_ble_eq_true rfl) dX12_takePerson_36 ?_
      rintro _ τ1004 ⟨x1007, rfl, i1005, f1006, b1008, h1010⟩
      have g1009 : Fr MS_X12_takePersonE AS_X12_takePersonE σ τ1004 := Fr.call (g970) f1006 (by decide)
      have v1011 : CP (gV σ 23 0 152).toInt τ1004 := v972.call (fun k => f1006.1 23 0 k (by simp) (by decide))
      have v1012 : TpM τ1004 T N := v973.fr f1006 (by decide) (by decide) (by simp) (by decide)
      have v1013 : CuM T N (tE T N i) τ1004 := CuM.fr v977 f1006 (by decide) (by decide)
      have a1014 : gV τ1004 22 0 16 = (gV σ 22 0 16) := (show gV τ1004 22 0 16 = (gV σ 22 0 16) from (f1006.1 22 0 (16) (by decide) (by decide)).trans a979)
      have q1015 : (gV τ1004 22 0 16).toInt = (gV σ 22 0 16).toInt := congrArg Int32.toInt a1014
      have a1016 : gV τ1004 22 0 6 = (gV σ 22 0 6) := (show gV τ1004 22 0 6 = (gV σ 22 0 6) from (f1006.1 22 0 (6) (by decide) (by decide)).trans a981)
      have q1017 : (gV τ1004 22 0 6).toInt = (gV σ 22 0 6).toInt := congrArg Int32.toInt a1016
      have a1018 : gV τ1004 23 0 150 = (gV σ 23 0 150) := (show gV τ1004 23 0 150 = (gV σ 23 0 150) from (f1006.1 23 0 (150) (by decide) (by decide)).trans a983)
      have q1019 : (gV τ1004 23 0 150).toInt = (gV σ 23 0 150).toInt := congrArg Int32.toInt a1018
      have a1020 : gV τ1004 23 0 152 = (gV σ 23 0 152) := (show gV τ1004 23 0 152 = (gV σ 23 0 152) from (f1006.1 23 0 (152) (by decide) (by decide)).trans a985)
      have q1021 : (gV τ1004 23 0 152).toInt = (gV σ 23 0 152).toInt := congrArg Int32.toInt a1020
      have a1022 : gV τ1004 23 0 188 = (gV σ 23 0 188) := (show gV τ1004 23 0 188 = (gV σ 23 0 188) from (f1006.1 23 0 (188) (by decide) (by decide)).trans a987)
      have q1023 : (gV τ1004 23 0 188).toInt = (gV σ 23 0 188).toInt := congrArg Int32.toInt a1022
      have a1024 : gV τ1004 22 0 11 = (gV τ965 22 0 11) := (show gV τ1004 22 0 11 = (gV τ965 22 0 11) from (f1006.1 22 0 (11) (by decide) (by decide)).trans rfl)
      have q1025 : (gV τ1004 22 0 11).toInt = (gV τ965 22 0 11).toInt := congrArg Int32.toInt a1024
      have a1026 : gV τ1004 22 0 12 = (gV τ965 22 0 12) := (show gV τ1004 22 0 12 = (gV τ965 22 0 12) from (f1006.1 22 0 (12) (by decide) (by decide)).trans rfl)
      have q1027 : (gV τ1004 22 0 12).toInt = (gV τ965 22 0 12).toInt := congrArg Int32.toInt a1026
      rcases h1010 with ⟨h1010_0, h1010_1⟩ | ⟨h1010_0, h1010_1⟩ | ⟨h1010_0, h1010_1⟩ | ⟨h1010_0, h1010_1⟩ | ⟨h1010_0, h1010_1⟩ | ⟨h1010_0, h1010_1, h1010_2, h1010_3, h1010_4, h1010_5⟩
      · skip
        have b1028 : IV x1007 1 1 := ⟨by omega, by omega⟩
        have a1029 : tW T N (tE T N i) 2 = 1 := q999.mp h1010_1
        have a1030 : ¬ tW T N (tE T N i) 3 = 1 := fun h => by have h2 := q1000.mpr h; rw [h1010_1] at h2; exact absurd h2 (by decide)
        have a1031 : ¬ tW T N (tE T N i) 4 = 1 := fun h => by have h2 := q1001.mpr h; rw [h1010_1] at h2; exact absurd h2 (by decide)
        have a1032 : ¬ tW T N (tE T N i) 5 = 1 := fun h => by have h2 := q1002.mpr h; rw [h1010_1] at h2; exact absurd h2 (by decide)
        have a1033 : ¬ tW T N (tE T N i) 6 = 1 := fun h => by have h2 := q1003.mpr h; rw [h1010_1] at h2; exact absurd h2 (by decide)
        have q1034 : tQ T N (tE T N i) = 1 := tQ_a1 q998 a1029
        clear a1029 a1030 a1031 a1032 a1033 q999 q1000 q1001 q1002 q1003
        show MW p l e _ s m args below meth c _ 4 G 0 0 39 [some (.ref (G.1 22 0)), some (.int (gV σ 23 0 152)), none, none] [.int x1007] τ1004
        refine m_goto (tgt := 43) C dX12_takePerson_39 (by decide) ?_
        exact J43 τ1004 (gV σ 23 0 152) x1007 i1005 g1009 b964 (iv_wk b1028 (by decide)) v1011 v1012 ⟨v1013, by omega, by omega, by omega, by omega, by omega, by omega, by omega⟩ (by omega)
      · skip
        have b1035 : IV x1007 4 4 := ⟨by omega, by omega⟩
        have a1036 : ¬ tW T N (tE T N i) 2 = 1 := fun h => by have h2 := q999.mpr h; rw [h1010_1] at h2; exact absurd h2 (by decide)
        have a1037 : ¬ tW T N (tE T N i) 3 = 1 := fun h => by have h2 := q1000.mpr h; rw [h1010_1] at h2; exact absurd h2 (by decide)
        have a1038 : ¬ tW T N (tE T N i) 4 = 1 := fun h => by have h2 := q1001.mpr h; rw [h1010_1] at h2; exact absurd h2 (by decide)
        have a1039 : tW T N (tE T N i) 5 = 1 := q1002.mp h1010_1
        have a1040 : ¬ tW T N (tE T N i) 6 = 1 := fun h => by have h2 := q1003.mpr h; rw [h1010_1] at h2; exact absurd h2 (by decide)
        have q1041 : tQ T N (tE T N i) = 4 := tQ_a4 q998 a1036 a1037 a1038 a1039
        clear a1036 a1037 a1038 a1039 a1040 q999 q1000 q1001 q1002 q1003
        show MW p l e _ s m args below meth c _ 4 G 0 0 39 [some (.ref (G.1 22 0)), some (.int (gV σ 23 0 152)), none, none] [.int x1007] τ1004
        refine m_goto (tgt := 43) C dX12_takePerson_39 (by decide) ?_
        exact J43 τ1004 (gV σ 23 0 152) x1007 i1005 g1009 b964 (iv_wk b1035 (by decide)) v1011 v1012 ⟨v1013, by omega, by omega, by omega, by omega, by omega, by omega, by omega⟩ (by omega)
      · skip
        have b1042 : IV x1007 2 2 := ⟨by omega, by omega⟩
        have a1043 : ¬ tW T N (tE T N i) 2 = 1 := fun h => by have h2 := q999.mpr h; rw [h1010_1] at h2; exact absurd h2 (by decide)
        have a1044 : tW T N (tE T N i) 3 = 1 := q1000.mp h1010_1
        have a1045 : ¬ tW T N (tE T N i) 4 = 1 := fun h => by have h2 := q1001.mpr h; rw [h1010_1] at h2; exact absurd h2 (by decide)
        have a1046 : ¬ tW T N (tE T N i) 5 = 1 := fun h => by have h2 := q1002.mpr h; rw [h1010_1] at h2; exact absurd h2 (by decide)
        have a1047 : ¬ tW T N (tE T N i) 6 = 1 := fun h => by have h2 := q1003.mpr h; rw [h1010_1] at h2; exact absurd h2 (by decide)
        have q1048 : tQ T N (tE T N i) = 2 := tQ_a2 q998 a1043 a1044
        clear a1043 a1044 a1045 a1046 a1047 q999 q1000 q1001 q1002 q1003
        show MW p l e _ s m args below meth c _ 4 G 0 0 39 [some (.ref (G.1 22 0)), some (.int (gV σ 23 0 152)), none, none] [.int x1007] τ1004
        refine m_goto (tgt := 43) C dX12_takePerson_39 (by decide) ?_
        exact J43 τ1004 (gV σ 23 0 152) x1007 i1005 g1009 b964 (iv_wk b1042 (by decide)) v1011 v1012 ⟨v1013, by omega, by omega, by omega, by omega, by omega, by omega, by omega⟩ (by omega)
      · skip
        have b1049 : IV x1007 5 5 := ⟨by omega, by omega⟩
        have a1050 : ¬ tW T N (tE T N i) 2 = 1 := fun h => by have h2 := q999.mpr h; rw [h1010_1] at h2; exact absurd h2 (by decide)
        have a1051 : ¬ tW T N (tE T N i) 3 = 1 := fun h => by have h2 := q1000.mpr h; rw [h1010_1] at h2; exact absurd h2 (by decide)
        have a1052 : ¬ tW T N (tE T N i) 4 = 1 := fun h => by have h2 := q1001.mpr h; rw [h1010_1] at h2; exact absurd h2 (by decide)
        have a1053 : ¬ tW T N (tE T N i) 5 = 1 := fun h => by have h2 := q1002.mpr h; rw [h1010_1] at h2; exact absurd h2 (by decide)
        have a1054 : tW T N (tE T N i) 6 = 1 := q1003.mp h1010_1
        have q1055 : tQ T N (tE T N i) = 5 := tQ_a5 q998 a1050 a1051 a1052 a1053 a1054
        clear a1050 a1051 a1052 a1053 a1054 q999 q1000 q1001 q1002 q1003
        show MW p l e _ s m args below meth c _ 4 G 0 0 39 [some (.ref (G.1 22 0)), some (.int (gV σ 23 0 152)), none, none] [.int x1007] τ1004
        refine m_goto (tgt := 43) C dX12_takePerson_39 (by decide) ?_
        exact J43 τ1004 (gV σ 23 0 152) x1007 i1005 g1009 b964 (iv_wk b1049 (by decide)) v1011 v1012 ⟨v1013, by omega, by omega, by omega, by omega, by omega, by omega, by omega⟩ (by omega)
      · skip
        have b1056 : IV x1007 3 3 := ⟨by omega, by omega⟩
        have a1057 : ¬ tW T N (tE T N i) 2 = 1 := fun h => by have h2 := q999.mpr h; rw [h1010_1] at h2; exact absurd h2 (by decide)
        have a1058 : ¬ tW T N (tE T N i) 3 = 1 := fun h => by have h2 := q1000.mpr h; rw [h1010_1] at h2; exact absurd h2 (by decide)
        have a1059 : tW T N (tE T N i) 4 = 1 := q1001.mp h1010_1
        have a1060 : ¬ tW T N (tE T N i) 5 = 1 := fun h => by have h2 := q1002.mpr h; rw [h1010_1] at h2; exact absurd h2 (by decide)
        have a1061 : ¬ tW T N (tE T N i) 6 = 1 := fun h => by have h2 := q1003.mpr h; rw [h1010_1] at h2; exact absurd h2 (by decide)
        have q1062 : tQ T N (tE T N i) = 3 := tQ_a3 q998 a1057 a1058 a1059
        clear a1057 a1058 a1059 a1060 a1061 q999 q1000 q1001 q1002 q1003
        show MW p l e _ s m args below meth c _ 4 G 0 0 39 [some (.ref (G.1 22 0)), some (.int (gV σ 23 0 152)), none, none] [.int x1007] τ1004
        refine m_goto (tgt := 43) C dX12_takePerson_39 (by decide) ?_
        exact J43 τ1004 (gV σ 23 0 152) x1007 i1005 g1009 b964 (iv_wk b1056 (by decide)) v1011 v1012 ⟨v1013, by omega, by omega, by omega, by omega, by omega, by omega, by omega⟩ (by omega)
      · skip
        have b1063 : IV x1007 (-1) (-1) := ⟨by omega, by omega⟩
        have a1064 : ¬ tW T N (tE T N i) 2 = 1 := fun h => h1010_1 (q999.mpr h)
        have a1065 : ¬ tW T N (tE T N i) 3 = 1 := fun h => h1010_3 (q1000.mpr h)
        have a1066 : ¬ tW T N (tE T N i) 4 = 1 := fun h => h1010_5 (q1001.mpr h)
        have a1067 : ¬ tW T N (tE T N i) 5 = 1 := fun h => h1010_2 (q1002.mpr h)
        have a1068 : ¬ tW T N (tE T N i) 6 = 1 := fun h => h1010_4 (q1003.mpr h)
        have q1069 : tQ T N (tE T N i) = 0 := tQ_a0 q998 a1064 a1065 a1066 a1067 a1068
        clear a1064 a1065 a1066 a1067 a1068 q999 q1000 q1001 q1002 q1003
        show MW p l e _ s m args below meth c _ 4 G 0 0 39 [some (.ref (G.1 22 0)), some (.int (gV σ 23 0 152)), none, none] [.int x1007] τ1004
        refine m_goto (tgt := 43) C dX12_takePerson_39 (by decide) ?_
        exact J43 τ1004 (gV σ 23 0 152) x1007 i1005 g1009 b964 (iv_wk b1063 (by decide)) v1011 v1012 ⟨v1013, by omega, by omega, by omega, by omega, by omega, by omega, by omega⟩ (by omega)
  · have f1070 : (gV σ 23 0 152).toInt = 7 := by
      have q : _ := c962
      simp only [ti_nle, ti_nlt, ti_le, ti_lt, ti_eq, ti_ne, Classical.not_not, kt_7] at q
      omega
    have b1071 : IV (gV σ 23 0 152) 7 7 := ⟨by have q1 := u957; have q2 := kc_7; omega, by have q1 := u957; have q2 := kc_7; omega⟩
    have q1072 : (gV σ 22 0 12).toInt = (tS T i : Int) ∧ (gV σ 22 0 12).toInt ≤ 400 := ⟨hcur.1.1, hcur.1.2.2.2.2.2.2⟩
    refine m_aload_n C dX12_takePerson_15 rfl rfl ?_
    refine m_iconst (v := 3) C dX12_takePerson_16 (by decide) ?_
    refine p_22_16 C q4_132 dX12_takePerson_17 ?_
    refine m_tops (fun τ1073 eτ1073 => ?_)
    have i1074 : Inv τ1073 := eτ1073 ▸ Inv.putF hI (by decide) rfl
    have f1075 : Fr MS_X12_takePersonE AS_X12_takePersonE σ τ1073 := eτ1073 ▸ Fr.put (Fr.rf) (Or.inl (by decide))
    have v1076 : CP (gV σ 23 0 152).toInt τ1073 := (hPb.cp hI).put eτ1073 (Or.inl (by decide))
    have v1077 : TpM τ1073 T N := hT.put eτ1073 (Or.inr (by decide)) (by decide)
    have v1078 : τ1073.2.2.1 = σ.2.2.1 := by rw [eτ1073]; rfl
    have v1079 : CuM T N i τ1073 := CuM.put hcur eτ1073 (Or.inr (by decide))
    have a1080 : gV τ1073 22 0 11 = (gV σ 22 0 11) := (show gV τ1073 22 0 11 = (gV σ 22 0 11) from gV_put eτ1073 rfl)
    have q1081 : (gV τ1073 22 0 11).toInt = (gV σ 22 0 11).toInt := congrArg Int32.toInt a1080
    have a1082 : gV τ1073 22 0 12 = (gV σ 22 0 12) := (show gV τ1073 22 0 12 = (gV σ 22 0 12) from gV_put eτ1073 rfl)
    have q1083 : (gV τ1073 22 0 12).toInt = (gV σ 22 0 12).toInt := congrArg Int32.toInt a1082
    have a1084 : gV τ1073 22 0 6 = (gV σ 22 0 6) := (show gV τ1073 22 0 6 = (gV σ 22 0 6) from gV_put eτ1073 rfl)
    have q1085 : (gV τ1073 22 0 6).toInt = (gV σ 22 0 6).toInt := congrArg Int32.toInt a1084
    have a1086 : gV τ1073 23 0 150 = (gV σ 23 0 150) := (show gV τ1073 23 0 150 = (gV σ 23 0 150) from gV_put eτ1073 rfl)
    have q1087 : (gV τ1073 23 0 150).toInt = (gV σ 23 0 150).toInt := congrArg Int32.toInt a1086
    have a1088 : gV τ1073 23 0 152 = (gV σ 23 0 152) := (show gV τ1073 23 0 152 = (gV σ 23 0 152) from gV_put eτ1073 rfl)
    have q1089 : (gV τ1073 23 0 152).toInt = (gV σ 23 0 152).toInt := congrArg Int32.toInt a1088
    have a1090 : gV τ1073 23 0 188 = (gV σ 23 0 188) := (show gV τ1073 23 0 188 = (gV σ 23 0 188) from gV_put eτ1073 rfl)
    have q1091 : (gV τ1073 23 0 188).toInt = (gV σ 23 0 188).toInt := congrArg Int32.toInt a1090
    have a1092 : gV τ1073 22 0 16 = 3 := (show gV τ1073 22 0 16 = 3 from gV_put eτ1073 (gV_self _ _ _ _ _))
    have q1093 : (gV τ1073 22 0 16).toInt = 3 := (congrArg Int32.toInt a1092).trans kt_3
    exact m_vret C hr hlk (by decide) (by decide) dX12_takePerson_20 ⟨rfl, i1074, f1075, (by have qd := per_0 T N st cc i (by omega); exact Or.inl ⟨by omega, by omega, by omega, by omega, by omega, by omega⟩)⟩
