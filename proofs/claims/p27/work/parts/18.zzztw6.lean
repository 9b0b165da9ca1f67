abbrev MS_X12_takePersonS : List (Nat × Nat) := [(22, 11), (22, 12), (22, 13), (22, 15), (22, 16)]
abbrev AS_X12_takePersonS : List Nat := [23]
set_option maxHeartbeats 4000000 in
set_option maxRecDepth 100000 in
theorem c_X12_takePersonS (l : Launch) (G : Gt) (σ : Sg) (T : Nat → Int) (N : Nat) (i : Nat) (st : Int) (cc : Int) (hI : Inv σ) (hT : TpM σ T N) (hcur : CuM T N i σ) (hat : (gV σ 22 0 11).toInt ≤ (gV σ 22 0 6).toInt) (htk : tK T N i = 1) (hf0 : (gV σ 22 0 16).toInt = 0) (hPb : Pb σ) (hst : ((gV σ 23 0 150).toInt = st ∧ 4 ≤ st ∧ st ≤ 32 ∧ (gV σ 23 0 152).toInt = cc)) (hpp : pp T N cc.toNat = i ∧ PrM σ cc.toNat (PP T N)) : Mc l G yX12_takePerson cX12_takePerson 4 none 3 69 0 0 [.ref (G.1 22 0)] σ (PV fun τ => Inv τ ∧ Fr MS_X12_takePersonS AS_X12_takePersonS σ τ ∧ (((perF T N st cc i ≠ 0 ∧ ((gV τ 22 0 16).toInt = perF T N st cc i ∧ 1 ≤ (gV τ 22 0 16).toInt ∧ (gV τ 22 0 16).toInt ≤ 3) ∧ ((gV τ 22 0 12).toInt = perP T N st cc i ∧ 0 ≤ (gV τ 22 0 12).toInt ∧ (gV τ 22 0 12).toInt ≤ 400) ∧ ((gV τ 23 0 152).toInt = cc ∨ (gV τ 23 0 152).toInt = cc + 1) ∧ ((gV τ 23 0 150).toInt = (gV σ 23 0 150).toInt ∧ (gV τ 23 0 188).toInt = (gV σ 23 0 188).toInt) ∧ (gV τ 22 0 11).toInt ≤ (gV τ 22 0 6).toInt) ∨ (perF T N st cc i = 0 ∧ (gV τ 22 0 16).toInt = 0 ∧ (gV τ 23 0 152).toInt = cc + 1 ∧ ((gV τ 22 0 12).toInt = (tS T (tE T N (tE T N (tE T N (tE T N (tE T N (tE T N i)))))) : Int) ∧ (tK T N (tE T N (tE T N (tE T N (tE T N (tE T N (tE T N i)))))) ≠ 4 → (gV τ 22 0 11).toInt = (tE T N (tE T N (tE T N (tE T N (tE T N (tE T N (tE T N i)))))) : Int)) ∧ (gV τ 22 0 13).toInt = (tK T N (tE T N (tE T N (tE T N (tE T N (tE T N (tE T N i)))))) + 4) % 5 ∧ 0 ≤ tK T N (tE T N (tE T N (tE T N (tE T N (tE T N (tE T N i)))))) ∧ tK T N (tE T N (tE T N (tE T N (tE T N (tE T N (tE T N i)))))) ≤ 4 ∧ (tK T N (tE T N (tE T N (tE T N (tE T N (tE T N (tE T N i)))))) = 2 → (gV τ 22 0 15).toInt = tV T (tE T N (tE T N (tE T N (tE T N (tE T N (tE T N i))))))) ∧ (gV τ 22 0 12).toInt ≤ 400) ∧ ((gV τ 23 0 150).toInt = (gV σ 23 0 150).toInt ∧ (gV τ 23 0 188).toInt = (gV σ 23 0 188).toInt) ∧ (gV τ 22 0 11).toInt ≤ (gV τ 22 0 6).toInt ∧ Pb τ ∧ LW T N (tE T N (tE T N (tE T N (tE T N (tE T N (tE T N i)))))) τ.2.2.1)) ∧ SFm σ τ ∧ ((gV τ 22 0 16).toInt = 0 → PrM τ (cc + 1).toNat (PP T N)))) := by
  refine Mc.of (L0 := [some (.ref (G.1 22 0)), none, none, none]) (by decide) (Nat.le_of_ble_eq_true rfl) rfl ?_
  intro p e s m args below meth c C hr hlk
  have C : Cx p s m args c cX12_takePerson 4 "LeanTowerModel" := C
  have k0 : (0 : Int32).toInt = 0 := by decide
  have k1 : (1 : Int32).toInt = 1 := by decide
  have J165 : ∀ (τ : Sg) (y1 : Int32), Inv τ → Fr MS_X12_takePersonS AS_X12_takePersonS σ τ → IV y1 0 6 → (CP (gV σ 23 0 152).toInt τ) → (CQ (gV σ 23 0 152).toInt.toNat τ) → ((gV τ 23 0 (153 + cc.toNat)).toInt = tQ T N (tE T N i)) → (PrM τ cc.toNat (PP T N)) → (SFm σ τ) → (TpM τ T N) → (((gV τ 22 0 11).toInt ≤ (gV τ 22 0 6).toInt ∧ (gV τ 23 0 150).toInt = st ∧ (gV τ 23 0 152).toInt = cc ∧ (gV τ 23 0 188).toInt = (gV σ 23 0 188).toInt ∧ cc ≤ 6 ∧ y1.toInt = cc)) → ((((gV τ 22 0 16).toInt = 0 ∧ tQ T N (tE T N i) ≠ 0 ∧ (tK T N (tE T N (tE T N i)) = 2 ∧ 1 ≤ tV T (tE T N (tE T N i)) ∧ tV T (tE T N (tE T N i)) ≤ 20) ∧ (tK T N (tE T N (tE T N (tE T N i))) = 2 ∧ 1 ≤ tV T (tE T N (tE T N (tE T N i))) ∧ tV T (tE T N (tE T N (tE T N i))) ≤ 4) ∧ (tK T N (tE T N (tE T N (tE T N (tE T N i)))) = 2 ∧ (tV T (tE T N (tE T N (tE T N (tE T N i)))) = 99 ∨ (0 ≤ tV T (tE T N (tE T N (tE T N (tE T N i)))) ∧ tV T (tE T N (tE T N (tE T N (tE T N i)))) ≤ st - 1))) ∧ (gV τ 23 0 (160 + cc.toNat)).toInt = tV T (tE T N (tE T N i)) ∧ (gV τ 23 0 (167 + cc.toNat)).toInt = tV T (tE T N (tE T N (tE T N i))) ∧ True ∧ CuM T N (tE T N (tE T N (tE T N (tE T N (tE T N i))))) τ) ∨ ((1 ≤ (gV τ 22 0 16).toInt ∧ (gV τ 22 0 16).toInt ≤ 3) ∧ perF T N st cc i = (gV τ 22 0 16).toInt ∧ ((gV τ 22 0 12).toInt = perP T N st cc i ∧ 0 ≤ (gV τ 22 0 12).toInt ∧ (gV τ 22 0 12).toInt ≤ 400)))) → MW p l e { frames := 3, cells := 0, slots := 0, locals := 69 } s m args below meth c (MQ below (QP G (PV fun τ => Inv τ ∧ Fr MS_X12_takePersonS AS_X12_takePersonS σ τ ∧ (((perF T N st cc i ≠ 0 ∧ ((gV τ 22 0 16).toInt = perF T N st cc i ∧ 1 ≤ (gV τ 22 0 16).toInt ∧ (gV τ 22 0 16).toInt ≤ 3) ∧ ((gV τ 22 0 12).toInt = perP T N st cc i ∧ 0 ≤ (gV τ 22 0 12).toInt ∧ (gV τ 22 0 12).toInt ≤ 400) ∧ ((gV τ 23 0 152).toInt = cc ∨ (gV τ 23 0 152).toInt = cc + 1) ∧ ((gV τ 23 0 150).toInt = (gV σ 23 0 150).toInt ∧ (gV τ 23 0 188).toInt = (gV σ 23 0 188).toInt) ∧ (gV τ 22 0 11).toInt ≤ (gV τ 22 0 6).toInt) ∨ (perF T N st cc i = 0 ∧ (gV τ 22 0 16).toInt = 0 ∧ (gV τ 23 0 152).toInt = cc + 1 ∧ ((gV τ 22 0 12).toInt = (tS T (tE T N (tE T N (tE T N (tE T N (tE T N (tE T N i)))))) : Int) ∧ (tK T N (tE T N (tE T N (tE T N (tE T N (tE T N (tE T N i)))))) ≠ 4 → (gV τ 22 0 11).toInt = (tE T N (tE T N (tE T N (tE T N (tE T N (tE T N (tE T N i)))))) : Int)) ∧ (gV τ 22 0 13).toInt = (tK T N (tE T N (tE T N (tE T N (tE T N (tE T N (tE T N i)))))) + 4) % 5 ∧ 0 ≤ tK T N (tE T N (tE T N (tE T N (tE T N (tE T N (tE T N i)))))) ∧ tK T N (tE T N (tE T N (tE T N (tE T N (tE T N (tE T N i)))))) ≤ 4 ∧ (tK T N (tE T N (tE T N (tE T N (tE T N (tE T N (tE T N i)))))) = 2 → (gV τ 22 0 15).toInt = tV T (tE T N (tE T N (tE T N (tE T N (tE T N (tE T N i))))))) ∧ (gV τ 22 0 12).toInt ≤ 400) ∧ ((gV τ 23 0 150).toInt = (gV σ 23 0 150).toInt ∧ (gV τ 23 0 188).toInt = (gV σ 23 0 188).toInt) ∧ (gV τ 22 0 11).toInt ≤ (gV τ 22 0 6).toInt ∧ Pb τ ∧ LW T N (tE T N (tE T N (tE T N (tE T N (tE T N (tE T N i)))))) τ.2.2.1)) ∧ SFm σ τ ∧ ((gV τ 22 0 16).toInt = 0 → PrM τ (cc + 1).toNat (PP T N))))) args s 0 0 (aG G)) 4 G 0 0 165 [some (.ref (G.1 22 0)), some (.int y1), none, none] [] τ := by
    intro τ y1 iτ fτ b_y1 v_CP v_CQ v_K1 v_PM v_SM v_T n1 nR
    have u2 : IV (gV τ 22 0 11) 0 400 := iτ.1 22 0 11
    have u3 : IV (gV τ 22 0 6) 0 400 := iτ.1 22 0 6
    have u4 : IV (gV τ 23 0 152) 0 7 := iτ.1 23 0 152
    have u5 : IV (gV τ 23 0 188) 0 4 := iτ.1 23 0 188
    have q6 : (gV τ 22 0 6).toInt = (N : Int) := v_T.1
    have q7 := v_T.2.1
    rcases nR with ⟨n0_, n1_, n2_, n3_, n4_, n5_, n6_, nT_, nc_⟩ | ⟨n0_, n1_, n2_⟩
    · skip
      have b8 : IV (gV τ 22 0 16) 0 0 := ⟨by omega, by omega⟩
      refine m_aload_n C dX12_takePerson_165 rfl rfl ?_
      refine g_22_0 C q4_116 dX12_takePerson_166 ?_
      refine m_sipush (v := 181) C dX12_takePerson_169 (by decide) ?_
      refine m_iload_n C dX12_takePerson_172 rfl rfl ?_
      refine m_iadd C dX12_takePerson_173 ?_
      refine m_topi (fun x9 ex9 => ?_)
      have tx9 : x9.toInt = 181 + y1.toInt := by rw [ex9, ti_addv kc_181 b_y1 (by decide), kt_181]
      have b10 : IV x9 181 187 := by rw [ex9]; exact iv_add kc_181 b_y1 (by decide)
      refine m_iconst (v := 0) C dX12_takePerson_174 (by decide) ?_
      refine as_23 C b10 (by decide) rfl dX12_takePerson_175 ?_
      refine m_tops (fun τ11 eτ11 => ?_)
      have i12 : Inv τ11 := eτ11 ▸ Inv.putR0 iτ (by omega) kt_0
      have f13 : Fr MS_X12_takePersonS AS_X12_takePersonS σ τ11 := eτ11 ▸ Fr.put (fτ) (Or.inr (by decide))
      have v14 : CP (gV σ 23 0 152).toInt τ11 := v_CP.put eτ11 (Or.inr (fun q hq => by omega))
      have v15 : TpM τ11 T N := v_T.put eτ11 (Or.inl (by decide)) (by decide)
      have v16 : SFm σ τ11 := v_SM.put eτ11 (by omega)
      have v17 : PrM τ11 cc.toNat (PP T N) := v_PM.put eτ11 (by omega) (by omega)
      have v18 : (gV τ11 23 0 (153 + cc.toNat)).toInt = tQ T N (tE T N i) := (congrArg Int32.toInt (gV_putn eτ11 (Or.inr (Or.inr (by omega))))).trans v_K1
      have v19 : CQ (gV σ 23 0 152).toInt.toNat τ11 := v_CQ.put eτ11 (Or.inl (by decide)) (Or.inr (by omega))
      have v20 : (gV τ11 23 0 (160 + cc.toNat)).toInt = tV T (tE T N (tE T N i)) := (congrArg Int32.toInt (gV_putn eτ11 (Or.inr (Or.inr (by omega))))).trans n5_
      have v21 : (gV τ11 23 0 (167 + cc.toNat)).toInt = tV T (tE T N (tE T N (tE T N i))) := (congrArg Int32.toInt (gV_putn eτ11 (Or.inr (Or.inr (by omega))))).trans n6_
      have v22 : τ11.2.2.1 = τ.2.2.1 := by rw [eτ11]; rfl
      have v23 : CuM T N (tE T N (tE T N (tE T N (tE T N (tE T N i))))) τ11 := CuM.put nc_ eτ11 (Or.inl (by decide))
      refine m_aload_n C dX12_takePerson_176 rfl rfl ?_
      refine g_22_0 C q4_116 dX12_takePerson_177 ?_
      refine m_sipush (v := 152) C dX12_takePerson_180 (by decide) ?_
      refine m_dup2 C dX12_takePerson_183 rfl rfl ?_
      refine al_23 C kc_152 (by decide) kn_152 dX12_takePerson_184 ?_
      refine m_eqs (w := (gV τ 23 0 152)) (show gV τ11 23 0 152 = (gV τ 23 0 152) from (gV_putn eτ11 (Or.inr (Or.inr (nat_ne b10 (by decide))))).trans rfl) ?_
      refine m_iconst (v := 1) C dX12_takePerson_185 (by decide) ?_
      have a24 : gV τ11 22 0 11 = (gV τ 22 0 11) := (show gV τ11 22 0 11 = (gV τ 22 0 11) from gV_put eτ11 rfl)
      have q25 : (gV τ11 22 0 11).toInt = (gV τ 22 0 11).toInt := congrArg Int32.toInt a24
      have a26 : gV τ11 22 0 12 = (gV τ 22 0 12) := (show gV τ11 22 0 12 = (gV τ 22 0 12) from gV_put eτ11 rfl)
      have q27 : (gV τ11 22 0 12).toInt = (gV τ 22 0 12).toInt := congrArg Int32.toInt a26
      have a28 : gV τ11 22 0 16 = (gV τ 22 0 16) := (show gV τ11 22 0 16 = (gV τ 22 0 16) from gV_put eτ11 rfl)
      have q29 : (gV τ11 22 0 16).toInt = (gV τ 22 0 16).toInt := congrArg Int32.toInt a28
      have a30 : gV τ11 22 0 6 = (gV τ 22 0 6) := (show gV τ11 22 0 6 = (gV τ 22 0 6) from gV_put eτ11 rfl)
      have q31 : (gV τ11 22 0 6).toInt = (gV τ 22 0 6).toInt := congrArg Int32.toInt a30
      have a32 : gV τ11 23 0 150 = (gV τ 23 0 150) := (show gV τ11 23 0 150 = (gV τ 23 0 150) from (gV_putn eτ11 (Or.inr (Or.inr (nat_ne b10 (by decide))))).trans rfl)
      have q33 : (gV τ11 23 0 150).toInt = (gV τ 23 0 150).toInt := congrArg Int32.toInt a32
      have a34 : gV τ11 23 0 152 = (gV τ 23 0 152) := (show gV τ11 23 0 152 = (gV τ 23 0 152) from (gV_putn eτ11 (Or.inr (Or.inr (nat_ne b10 (by decide))))).trans rfl)
      have q35 : (gV τ11 23 0 152).toInt = (gV τ 23 0 152).toInt := congrArg Int32.toInt a34
      have a36 : gV τ11 23 0 188 = (gV τ 23 0 188) := (show gV τ11 23 0 188 = (gV τ 23 0 188) from (gV_putn eτ11 (Or.inr (Or.inr (nat_ne b10 (by decide))))).trans rfl)
      have q37 : (gV τ11 23 0 188).toInt = (gV τ 23 0 188).toInt := congrArg Int32.toInt a36
      have b38 : IV (gV τ 23 0 152) 0 6 := ⟨by have q1 := u4; omega, by have q1 := u4; omega⟩
      refine m_iadd C dX12_takePerson_186 ?_
      refine m_topi (fun x39 ex39 => ?_)
      have tx39 : x39.toInt = (gV τ 23 0 152).toInt + 1 := by rw [ex39, ti_addv b38 kc_1 (by decide), kt_1]
      have b40 : IV x39 1 7 := by rw [ex39]; exact iv_add b38 kc_1 (by decide)
      refine as_23 C kc_152 (by decide) kn_152 dX12_takePerson_187 ?_
      refine m_tops (fun τ41 eτ41 => ?_)
      have i42 : Inv τ41 := eτ41 ▸ Inv.putR i12 (by decide) (iv_wk b40 (by decide))
      have f43 : Fr MS_X12_takePersonS AS_X12_takePersonS σ τ41 := eτ41 ▸ Fr.put (f13) (Or.inr (by decide))
      have v44 : CP (gV σ 23 0 152).toInt τ41 := v14.put eτ41 (Or.inr (fun q hq => by omega))
      have v45 : TpM τ41 T N := v15.put eτ41 (Or.inl (by decide)) (by decide)
      have v46 : SFm σ τ41 := v16.put eτ41 (by omega)
      have v47 : PrM τ41 cc.toNat (PP T N) := v17.put eτ41 (by omega) (by omega)
      have v48 : (gV τ41 23 0 (153 + cc.toNat)).toInt = tQ T N (tE T N i) := (congrArg Int32.toInt (gV_putn eτ41 (Or.inr (Or.inr (by omega))))).trans v18
      have v49 : CQ (gV σ 23 0 152).toInt.toNat τ41 := v19.put eτ41 (Or.inl (by decide)) (Or.inr (by omega))
      have v50 : (gV τ41 23 0 (160 + cc.toNat)).toInt = tV T (tE T N (tE T N i)) := (congrArg Int32.toInt (gV_putn eτ41 (Or.inr (Or.inr (by omega))))).trans v20
      have v51 : (gV τ41 23 0 (167 + cc.toNat)).toInt = tV T (tE T N (tE T N (tE T N i))) := (congrArg Int32.toInt (gV_putn eτ41 (Or.inr (Or.inr (by omega))))).trans v21
      have v52 : τ41.2.2.1 = τ.2.2.1 := by rw [eτ41]; exact v22
      have v53 : CuM T N (tE T N (tE T N (tE T N (tE T N (tE T N i))))) τ41 := CuM.put v23 eτ41 (Or.inl (by decide))
      refine m_aload_n C dX12_takePerson_188 rfl rfl ?_
      clear q25 q27 q29 q31 q33 q35 q37
      have a54 : gV τ41 22 0 11 = (gV τ 22 0 11) := (show gV τ41 22 0 11 = (gV τ 22 0 11) from gV_put eτ41 a24)
      have q55 : (gV τ41 22 0 11).toInt = (gV τ 22 0 11).toInt := congrArg Int32.toInt a54
      have a56 : gV τ41 22 0 12 = (gV τ 22 0 12) := (show gV τ41 22 0 12 = (gV τ 22 0 12) from gV_put eτ41 a26)
      have q57 : (gV τ41 22 0 12).toInt = (gV τ 22 0 12).toInt := congrArg Int32.toInt a56
      have a58 : gV τ41 22 0 16 = (gV τ 22 0 16) := (show gV τ41 22 0 16 = (gV τ 22 0 16) from gV_put eτ41 a28)
      have q59 : (gV τ41 22 0 16).toInt = (gV τ 22 0 16).toInt := congrArg Int32.toInt a58
      have a60 : gV τ41 22 0 6 = (gV τ 22 0 6) := (show gV τ41 22 0 6 = (gV τ 22 0 6) from gV_put eτ41 a30)
      have q61 : (gV τ41 22 0 6).toInt = (gV τ 22 0 6).toInt := congrArg Int32.toInt a60
      have a62 : gV τ41 23 0 150 = (gV τ 23 0 150) := (show gV τ41 23 0 150 = (gV τ 23 0 150) from gV_put eτ41 a32)
      have q63 : (gV τ41 23 0 150).toInt = (gV τ 23 0 150).toInt := congrArg Int32.toInt a62
      have a64 : gV τ41 23 0 188 = (gV τ 23 0 188) := (show gV τ41 23 0 188 = (gV τ 23 0 188) from gV_put eτ41 a36)
      have q65 : (gV τ41 23 0 188).toInt = (gV τ 23 0 188).toInt := congrArg Int32.toInt a64
      have a66 : gV τ41 23 0 152 = x39 := (show gV τ41 23 0 152 = x39 from gV_put eτ41 (gV_self _ _ _ _ _))
      have q67 : (gV τ41 23 0 152).toInt = x39.toInt := congrArg Int32.toInt a66
      refine m_callV (n := 0) (ci := 11) (st := []) C (c_X12_takeSignE l G τ41 T N (tE T N (tE T N (tE T N (tE T N (tE T N i)))))  i42 v45 (fun _ => v53.1) (by omega)) (by decide) (by decide) rfl rfl rfl q5_15 q5_12 q5_14 q0_32 q1_7 (by decide +kernel) rfl (by decide) (by decide) rfl (Nat.le_of_ble_eq_true rfl) dX12_takePerson_189 ?_
      rintro _ τ68 ⟨rfl, i69, f70, h74⟩
      have g73 : Fr MS_X12_takePersonS AS_X12_takePersonS σ τ68 := Fr.call (f43) f70 (by decide)
      have v75 : CP (gV σ 23 0 152).toInt τ68 := v44.call (fun k => f70.1 23 0 k (by simp) (by decide))
      have v76 : TpM τ68 T N := v45.fr f70 (by decide) (by decide) (by simp) (by decide)
      have v77 : SFm σ τ68 := v46.fr f70 (by simp) (by decide)
      have v78 : PrM τ68 cc.toNat (PP T N) := v47.call (fun k => f70.1 23 0 k (by simp) (by decide))
      have v79 : (gV τ68 23 0 (153 + cc.toNat)).toInt = tQ T N (tE T N i) := (congrArg Int32.toInt (f70.1 23 0 _ (by simp) (by decide))).trans v48
      have v80 : (gV τ68 23 0 (160 + cc.toNat)).toInt = tV T (tE T N (tE T N i)) := (congrArg Int32.toInt (f70.1 23 0 _ (by simp) (by decide))).trans v50
      have v81 : (gV τ68 23 0 (167 + cc.toNat)).toInt = tV T (tE T N (tE T N (tE T N i))) := (congrArg Int32.toInt (f70.1 23 0 _ (by simp) (by decide))).trans v51
      have u82 : IV (gV τ68 22 0 11) 0 400 := i69.1 22 0 11
      have a83 : gV τ68 22 0 6 = (gV τ 22 0 6) := (show gV τ68 22 0 6 = (gV τ 22 0 6) from (f70.1 22 0 (6) (by decide) (by decide)).trans a60)
      have q84 : (gV τ68 22 0 6).toInt = (gV τ 22 0 6).toInt := congrArg Int32.toInt a83
      have a85 : gV τ68 23 0 150 = (gV τ 23 0 150) := (show gV τ68 23 0 150 = (gV τ 23 0 150) from (f70.1 23 0 (150) (by decide) (by decide)).trans a62)
      have q86 : (gV τ68 23 0 150).toInt = (gV τ 23 0 150).toInt := congrArg Int32.toInt a85
      have a87 : gV τ68 23 0 188 = (gV τ 23 0 188) := (show gV τ68 23 0 188 = (gV τ 23 0 188) from (f70.1 23 0 (188) (by decide) (by decide)).trans a64)
      have q88 : (gV τ68 23 0 188).toInt = (gV τ 23 0 188).toInt := congrArg Int32.toInt a87
      have a89 : gV τ68 23 0 152 = x39 := (show gV τ68 23 0 152 = x39 from (f70.1 23 0 (152) (by decide) (by decide)).trans a66)
      have q90 : (gV τ68 23 0 152).toInt = x39.toInt := congrArg Int32.toInt a89
      rcases h74 with ⟨h74_0, h74_1, h74_2, h74_3⟩ | ⟨h74_0, h74_1, h74_2, h74_3, h74_4⟩ | ⟨h74_0, h74_1, h74_2, h74_3, h74_4, h74_5⟩
      · skip
        exfalso; omega
      · skip
        have v91 : CQ (gV σ 23 0 152).toInt.toNat τ68 := v49.call (fun q => by omega) (fun k => f70.1 23 0 k (by simp) (by decide))
        have b92 : IV (gV τ68 22 0 16) 1 1 := ⟨by omega, by omega⟩
        show MW p l e _ s m args below meth c _ 4 G 0 0 192 [some (.ref (G.1 22 0)), some (.int y1), none, none] [] τ68
        exact m_vret C hr hlk (by decide) (by decide) dX12_takePerson_192 ⟨rfl, i69, g73, ⟨(by have qd := per_8 T N st cc i (by omega) (by omega) (by omega) (by omega) (by omega) (by omega) (by omega) (by omega) (by omega); exact Or.inl ⟨by omega, by omega, by omega, by omega, by omega, by omega⟩), v77, (fun h => absurd h (by omega))⟩⟩
      · skip
        have v93 : CQ (gV σ 23 0 152).toInt.toNat τ68 := v49.call (fun q => by omega) (fun k => f70.1 23 0 k (by simp) (by decide))
        have b94 : IV (gV τ68 22 0 16) 0 0 := ⟨by omega, by omega⟩
        have v95 : CuM T N (tE T N (tE T N (tE T N (tE T N (tE T N (tE T N i)))))) τ68 := ⟨h74_3, h74_4⟩
        clear h74_3
        show MW p l e _ s m args below meth c _ 4 G 0 0 192 [some (.ref (G.1 22 0)), some (.int y1), none, none] [] τ68
        exact m_vret C hr hlk (by decide) (by decide) dX12_takePerson_192 ⟨rfl, i69, g73, ⟨(by have qd := per_ok T N st cc i (by omega) (by omega) (by omega) (by omega) (by omega) (by omega) (by omega) (by omega) (by omega); exact Or.inr ⟨by omega, by omega, by omega, v95.1, by omega, by omega, Pb.mk (by omega) v75 (v93 (by omega)) (by omega), h74_5⟩), v77, (fun _ => (PrM.more v78 (by show _ = tQ T N (tE T N (pp T N cc.toNat)); rw [hpp.1]; exact v79) (by show buF (tQ T N (tE T N (pp T N cc.toNat))) _ = buF (tQ T N (tE T N (pp T N cc.toNat))) (tV T (tE T N (tE T N (pp T N cc.toNat)))); rw [hpp.1, v80]) (by show _ = tV T (tE T N (tE T N (tE T N (pp T N cc.toNat)))); rw [hpp.1]; exact v81) (by omega) (by show 1 ≤ tQ T N (tE T N (pp T N cc.toNat)) ∧ tQ T N (tE T N (pp T N cc.toNat)) ≤ 5; rw [hpp.1]; have q9 := tQ_r T N (tE T N i); omega) (by show 1 ≤ tV T (tE T N (tE T N (tE T N (pp T N cc.toNat)))) ∧ tV T (tE T N (tE T N (tE T N (pp T N cc.toNat)))) ≤ 4; rw [hpp.1]; omega)).cast (by omega))⟩⟩
    · skip
      have b96 : IV (gV τ 22 0 16) 1 3 := ⟨by omega, by omega⟩
      refine m_aload_n C dX12_takePerson_165 rfl rfl ?_
      refine g_22_0 C q4_116 dX12_takePerson_166 ?_
      refine m_sipush (v := 181) C dX12_takePerson_169 (by decide) ?_
      refine m_iload_n C dX12_takePerson_172 rfl rfl ?_
      refine m_iadd C dX12_takePerson_173 ?_
      refine m_topi (fun x97 ex97 => ?_)
      have tx97 : x97.toInt = 181 + y1.toInt := by rw [ex97, ti_addv kc_181 b_y1 (by decide), kt_181]
      have b98 : IV x97 181 187 := by rw [ex97]; exact iv_add kc_181 b_y1 (by decide)
      refine m_iconst (v := 0) C dX12_takePerson_174 (by decide) ?_
      refine as_23 C b98 (by decide) rfl dX12_takePerson_175 ?_
      refine m_tops (fun τ99 eτ99 => ?_)
      have i100 : Inv τ99 := eτ99 ▸ Inv.putR0 iτ (by omega) kt_0
      have f101 : Fr MS_X12_takePersonS AS_X12_takePersonS σ τ99 := eτ99 ▸ Fr.put (fτ) (Or.inr (by decide))
      have v102 : CP (gV σ 23 0 152).toInt τ99 := v_CP.put eτ99 (Or.inr (fun q hq => by omega))
      have v103 : TpM τ99 T N := v_T.put eτ99 (Or.inl (by decide)) (by decide)
      have v104 : SFm σ τ99 := v_SM.put eτ99 (by omega)
      have v105 : PrM τ99 cc.toNat (PP T N) := v_PM.put eτ99 (by omega) (by omega)
      have v106 : (gV τ99 23 0 (153 + cc.toNat)).toInt = tQ T N (tE T N i) := (congrArg Int32.toInt (gV_putn eτ99 (Or.inr (Or.inr (by omega))))).trans v_K1
      have v107 : CQ (gV σ 23 0 152).toInt.toNat τ99 := v_CQ.put eτ99 (Or.inl (by decide)) (Or.inr (by omega))
      have v108 : τ99.2.2.1 = τ.2.2.1 := by rw [eτ99]; rfl
      refine m_aload_n C dX12_takePerson_176 rfl rfl ?_
      refine g_22_0 C q4_116 dX12_takePerson_177 ?_
      refine m_sipush (v := 152) C dX12_takePerson_180 (by decide) ?_
      refine m_dup2 C dX12_takePerson_183 rfl rfl ?_
      refine al_23 C kc_152 (by decide) kn_152 dX12_takePerson_184 ?_
      refine m_eqs (w := (gV τ 23 0 152)) (show gV τ99 23 0 152 = (gV τ 23 0 152) from (gV_putn eτ99 (Or.inr (Or.inr (nat_ne b98 (by decide))))).trans rfl) ?_
      refine m_iconst (v := 1) C dX12_takePerson_185 (by decide) ?_
      have a109 : gV τ99 22 0 11 = (gV τ 22 0 11) := (show gV τ99 22 0 11 = (gV τ 22 0 11) from gV_put eτ99 rfl)
      have q110 : (gV τ99 22 0 11).toInt = (gV τ 22 0 11).toInt := congrArg Int32.toInt a109
      have a111 : gV τ99 22 0 12 = (gV τ 22 0 12) := (show gV τ99 22 0 12 = (gV τ 22 0 12) from gV_put eτ99 rfl)
      have q112 : (gV τ99 22 0 12).toInt = (gV τ 22 0 12).toInt := congrArg Int32.toInt a111
      have a113 : gV τ99 22 0 16 = (gV τ 22 0 16) := (show gV τ99 22 0 16 = (gV τ 22 0 16) from gV_put eτ99 rfl)
      have q114 : (gV τ99 22 0 16).toInt = (gV τ 22 0 16).toInt := congrArg Int32.toInt a113
      have a115 : gV τ99 22 0 6 = (gV τ 22 0 6) := (show gV τ99 22 0 6 = (gV τ 22 0 6) from gV_put eτ99 rfl)
      have q116 : (gV τ99 22 0 6).toInt = (gV τ 22 0 6).toInt := congrArg Int32.toInt a115
      have a117 : gV τ99 23 0 150 = (gV τ 23 0 150) := (show gV τ99 23 0 150 = (gV τ 23 0 150) from (gV_putn eτ99 (Or.inr (Or.inr (nat_ne b98 (by decide))))).trans rfl)
      have q118 : (gV τ99 23 0 150).toInt = (gV τ 23 0 150).toInt := congrArg Int32.toInt a117
      have a119 : gV τ99 23 0 152 = (gV τ 23 0 152) := (show gV τ99 23 0 152 = (gV τ 23 0 152) from (gV_putn eτ99 (Or.inr (Or.inr (nat_ne b98 (by decide))))).trans rfl)
      have q120 : (gV τ99 23 0 152).toInt = (gV τ 23 0 152).toInt := congrArg Int32.toInt a119
      have a121 : gV τ99 23 0 188 = (gV τ 23 0 188) := (show gV τ99 23 0 188 = (gV τ 23 0 188) from (gV_putn eτ99 (Or.inr (Or.inr (nat_ne b98 (by decide))))).trans rfl)
      have q122 : (gV τ99 23 0 188).toInt = (gV τ 23 0 188).toInt := congrArg Int32.toInt a121
      have b123 : IV (gV τ 23 0 152) 0 6 := ⟨by have q1 := u4; omega, by have q1 := u4; omega⟩
      refine m_iadd C dX12_takePerson_186 ?_
      refine m_topi (fun x124 ex124 => ?_)
      have tx124 : x124.toInt = (gV τ 23 0 152).toInt + 1 := by rw [ex124, ti_addv b123 kc_1 (by decide), kt_1]
      have b125 : IV x124 1 7 := by rw [ex124]; exact iv_add b123 kc_1 (by decide)
      refine as_23 C kc_152 (by decide) kn_152 dX12_takePerson_187 ?_
      refine m_tops (fun τ126 eτ126 => ?_)
      have i127 : Inv τ126 := eτ126 ▸ Inv.putR i100 (by decide) (iv_wk b125 (by decide))
      have f128 : Fr MS_X12_takePersonS AS_X12_takePersonS σ τ126 := eτ126 ▸ Fr.put (f101) (Or.inr (by decide))
      have v129 : CP (gV σ 23 0 152).toInt τ126 := v102.put eτ126 (Or.inr (fun q hq => by omega))
      have v130 : TpM τ126 T N := v103.put eτ126 (Or.inl (by decide)) (by decide)
      have v131 : SFm σ τ126 := v104.put eτ126 (by omega)
      have v132 : PrM τ126 cc.toNat (PP T N) := v105.put eτ126 (by omega) (by omega)
      have v133 : (gV τ126 23 0 (153 + cc.toNat)).toInt = tQ T N (tE T N i) := (congrArg Int32.toInt (gV_putn eτ126 (Or.inr (Or.inr (by omega))))).trans v106
      have v134 : CQ (gV σ 23 0 152).toInt.toNat τ126 := v107.put eτ126 (Or.inl (by decide)) (Or.inr (by omega))
      have v135 : τ126.2.2.1 = τ.2.2.1 := by rw [eτ126]; exact v108
      refine m_aload_n C dX12_takePerson_188 rfl rfl ?_
      clear q110 q112 q114 q116 q118 q120 q122
      have a136 : gV τ126 22 0 11 = (gV τ 22 0 11) := (show gV τ126 22 0 11 = (gV τ 22 0 11) from gV_put eτ126 a109)
      have q137 : (gV τ126 22 0 11).toInt = (gV τ 22 0 11).toInt := congrArg Int32.toInt a136
      have a138 : gV τ126 22 0 12 = (gV τ 22 0 12) := (show gV τ126 22 0 12 = (gV τ 22 0 12) from gV_put eτ126 a111)
      have q139 : (gV τ126 22 0 12).toInt = (gV τ 22 0 12).toInt := congrArg Int32.toInt a138
      have a140 : gV τ126 22 0 16 = (gV τ 22 0 16) := (show gV τ126 22 0 16 = (gV τ 22 0 16) from gV_put eτ126 a113)
      have q141 : (gV τ126 22 0 16).toInt = (gV τ 22 0 16).toInt := congrArg Int32.toInt a140
      have a142 : gV τ126 22 0 6 = (gV τ 22 0 6) := (show gV τ126 22 0 6 = (gV τ 22 0 6) from gV_put eτ126 a115)
      have q143 : (gV τ126 22 0 6).toInt = (gV τ 22 0 6).toInt := congrArg Int32.toInt a142
      have a144 : gV τ126 23 0 150 = (gV τ 23 0 150) := (show gV τ126 23 0 150 = (gV τ 23 0 150) from gV_put eτ126 a117)
      have q145 : (gV τ126 23 0 150).toInt = (gV τ 23 0 150).toInt := congrArg Int32.toInt a144
      have a146 : gV τ126 23 0 188 = (gV τ 23 0 188) := (show gV τ126 23 0 188 = (gV τ 23 0 188) from gV_put eτ126 a121)
      have q147 : (gV τ126 23 0 188).toInt = (gV τ 23 0 188).toInt := congrArg Int32.toInt a146
      have a148 : gV τ126 23 0 152 = x124 := (show gV τ126 23 0 152 = x124 from gV_put eτ126 (gV_self _ _ _ _ _))
      have q149 : (gV τ126 23 0 152).toInt = x124.toInt := congrArg Int32.toInt a148
      refine m_callV (n := 0) (ci := 11) (st := []) C (c_X12_takeSignE l G τ126 T N (tE T N (tE T N (tE T N (tE T N (tE T N i)))))  i127 v130 (fun h => absurd h (by omega)) (by omega)) (by decide) (by decide) rfl rfl rfl q5_15 q5_12 q5_14 q0_32 q1_7 (by decide +kernel) rfl (by decide) (by decide) rfl (Nat.le_of_ble_eq_true rfl) dX12_takePerson_189 ?_
      rintro _ τ150 ⟨rfl, i151, f152, h156⟩
      have g155 : Fr MS_X12_takePersonS AS_X12_takePersonS σ τ150 := Fr.call (f128) f152 (by decide)
      have v157 : CP (gV σ 23 0 152).toInt τ150 := v129.call (fun k => f152.1 23 0 k (by simp) (by decide))
      have v158 : TpM τ150 T N := v130.fr f152 (by decide) (by decide) (by simp) (by decide)
      have v159 : SFm σ τ150 := v131.fr f152 (by simp) (by decide)
      have v160 : PrM τ150 cc.toNat (PP T N) := v132.call (fun k => f152.1 23 0 k (by simp) (by decide))
      have v161 : (gV τ150 23 0 (153 + cc.toNat)).toInt = tQ T N (tE T N i) := (congrArg Int32.toInt (f152.1 23 0 _ (by simp) (by decide))).trans v133
      have u162 : IV (gV τ150 22 0 11) 0 400 := i151.1 22 0 11
      have a163 : gV τ150 22 0 6 = (gV τ 22 0 6) := (show gV τ150 22 0 6 = (gV τ 22 0 6) from (f152.1 22 0 (6) (by decide) (by decide)).trans a142)
      have q164 : (gV τ150 22 0 6).toInt = (gV τ 22 0 6).toInt := congrArg Int32.toInt a163
      have a165 : gV τ150 23 0 150 = (gV τ 23 0 150) := (show gV τ150 23 0 150 = (gV τ 23 0 150) from (f152.1 23 0 (150) (by decide) (by decide)).trans a144)
      have q166 : (gV τ150 23 0 150).toInt = (gV τ 23 0 150).toInt := congrArg Int32.toInt a165
      have a167 : gV τ150 23 0 188 = (gV τ 23 0 188) := (show gV τ150 23 0 188 = (gV τ 23 0 188) from (f152.1 23 0 (188) (by decide) (by decide)).trans a146)
      have q168 : (gV τ150 23 0 188).toInt = (gV τ 23 0 188).toInt := congrArg Int32.toInt a167
      have a169 : gV τ150 23 0 152 = x124 := (show gV τ150 23 0 152 = x124 from (f152.1 23 0 (152) (by decide) (by decide)).trans a148)
      have q170 : (gV τ150 23 0 152).toInt = x124.toInt := congrArg Int32.toInt a169
      rcases h156 with ⟨h156_0, h156_1, h156_2, h156_3⟩ | ⟨h156_0, h156_1, h156_2, h156_3, h156_4⟩ | ⟨h156_0, h156_1, h156_2, h156_3, h156_4, h156_5⟩
      · skip
        have v171 : CQ (gV σ 23 0 152).toInt.toNat τ150 := v134.call (fun q => by omega) (fun k => f152.1 23 0 k (by simp) (by decide))
        show MW p l e _ s m args below meth c _ 4 G 0 0 192 [some (.ref (G.1 22 0)), some (.int y1), none, none] [] τ150
        exact m_vret C hr hlk (by decide) (by decide) dX12_takePerson_192 ⟨rfl, i151, g155, ⟨(by exact Or.inl ⟨by omega, by omega, by omega, by omega, by omega, by omega⟩), v159, (fun h => absurd h (by omega))⟩⟩
      · skip
        exfalso; omega
      · skip
        exfalso; omega
  have J144 : ∀ (τ : Sg) (y1 : Int32) (y3 : Int32), Inv τ → Fr MS_X12_takePersonS AS_X12_takePersonS σ τ → IV y1 0 6 → IV y3 (-2147483648) 2147483647 → (CP (gV σ 23 0 152).toInt τ) → (CQ (gV σ 23 0 152).toInt.toNat τ) → ((gV τ 23 0 (153 + cc.toNat)).toInt = tQ T N (tE T N i)) → (PrM τ cc.toNat (PP T N)) → (SFm σ τ) → (TpM τ T N) → (((gV τ 22 0 11).toInt ≤ (gV τ 22 0 6).toInt ∧ (gV τ 23 0 150).toInt = st ∧ (gV τ 23 0 152).toInt = cc ∧ (gV τ 23 0 188).toInt = (gV σ 23 0 188).toInt ∧ cc ≤ 6 ∧ y1.toInt = cc)) → ((((gV τ 22 0 16).toInt = 0 ∧ tQ T N (tE T N i) ≠ 0 ∧ (tK T N (tE T N (tE T N i)) = 2 ∧ 1 ≤ tV T (tE T N (tE T N i)) ∧ tV T (tE T N (tE T N i)) ≤ 20) ∧ (tK T N (tE T N (tE T N (tE T N i))) = 2 ∧ 1 ≤ tV T (tE T N (tE T N (tE T N i))) ∧ tV T (tE T N (tE T N (tE T N i))) ≤ 4) ∧ (tK T N (tE T N (tE T N (tE T N (tE T N i)))) = 2 ∧ (tV T (tE T N (tE T N (tE T N (tE T N i)))) = 99 ∨ (0 ≤ tV T (tE T N (tE T N (tE T N (tE T N i)))) ∧ tV T (tE T N (tE T N (tE T N (tE T N i)))) ≤ st - 1))) ∧ (gV τ 23 0 (160 + cc.toNat)).toInt = tV T (tE T N (tE T N i)) ∧ (gV τ 23 0 (167 + cc.toNat)).toInt = tV T (tE T N (tE T N (tE T N i))) ∧ True ∧ CuM T N (tE T N (tE T N (tE T N (tE T N (tE T N i))))) τ) ∨ ((1 ≤ (gV τ 22 0 16).toInt ∧ (gV τ 22 0 16).toInt ≤ 3) ∧ perF T N st cc i = (gV τ 22 0 16).toInt ∧ ((gV τ 22 0 12).toInt = perP T N st cc i ∧ 0 ≤ (gV τ 22 0 12).toInt ∧ (gV τ 22 0 12).toInt ≤ 400)))) → MW p l e { frames := 3, cells := 0, slots := 0, locals := 69 } s m args below meth c (MQ below (QP G (PV fun τ => Inv τ ∧ Fr MS_X12_takePersonS AS_X12_takePersonS σ τ ∧ (((perF T N st cc i ≠ 0 ∧ ((gV τ 22 0 16).toInt = perF T N st cc i ∧ 1 ≤ (gV τ 22 0 16).toInt ∧ (gV τ 22 0 16).toInt ≤ 3) ∧ ((gV τ 22 0 12).toInt = perP T N st cc i ∧ 0 ≤ (gV τ 22 0 12).toInt ∧ (gV τ 22 0 12).toInt ≤ 400) ∧ ((gV τ 23 0 152).toInt = cc ∨ (gV τ 23 0 152).toInt = cc + 1) ∧ ((gV τ 23 0 150).toInt = (gV σ 23 0 150).toInt ∧ (gV τ 23 0 188).toInt = (gV σ 23 0 188).toInt) ∧ (gV τ 22 0 11).toInt ≤ (gV τ 22 0 6).toInt) ∨ (perF T N st cc i = 0 ∧ (gV τ 22 0 16).toInt = 0 ∧ (gV τ 23 0 152).toInt = cc + 1 ∧ ((gV τ 22 0 12).toInt = (tS T (tE T N (tE T N (tE T N (tE T N (tE T N (tE T N i)))))) : Int) ∧ (tK T N (tE T N (tE T N (tE T N (tE T N (tE T N (tE T N i)))))) ≠ 4 → (gV τ 22 0 11).toInt = (tE T N (tE T N (tE T N (tE T N (tE T N (tE T N (tE T N i)))))) : Int)) ∧ (gV τ 22 0 13).toInt = (tK T N (tE T N (tE T N (tE T N (tE T N (tE T N (tE T N i)))))) + 4) % 5 ∧ 0 ≤ tK T N (tE T N (tE T N (tE T N (tE T N (tE T N (tE T N i)))))) ∧ tK T N (tE T N (tE T N (tE T N (tE T N (tE T N (tE T N i)))))) ≤ 4 ∧ (tK T N (tE T N (tE T N (tE T N (tE T N (tE T N (tE T N i)))))) = 2 → (gV τ 22 0 15).toInt = tV T (tE T N (tE T N (tE T N (tE T N (tE T N (tE T N i))))))) ∧ (gV τ 22 0 12).toInt ≤ 400) ∧ ((gV τ 23 0 150).toInt = (gV σ 23 0 150).toInt ∧ (gV τ 23 0 188).toInt = (gV σ 23 0 188).toInt) ∧ (gV τ 22 0 11).toInt ≤ (gV τ 22 0 6).toInt ∧ Pb τ ∧ LW T N (tE T N (tE T N (tE T N (tE T N (tE T N (tE T N i)))))) τ.2.2.1)) ∧ SFm σ τ ∧ ((gV τ 22 0 16).toInt = 0 → PrM τ (cc + 1).toNat (PP T N))))) args s 0 0 (aG G)) 4 G 0 0 144 [some (.ref (G.1 22 0)), some (.int y1), none, some (.int y3)] [] τ := by
    intro τ y1 y3 iτ fτ b_y1 b_y3 v_CP v_CQ v_K1 v_PM v_SM v_T n172 nR
    have u173 : IV (gV τ 22 0 11) 0 400 := iτ.1 22 0 11
    have u174 : IV (gV τ 22 0 6) 0 400 := iτ.1 22 0 6
    have u175 : IV (gV τ 23 0 152) 0 7 := iτ.1 23 0 152
    have u176 : IV (gV τ 23 0 188) 0 4 := iτ.1 23 0 188
    have q177 : (gV τ 22 0 6).toInt = (N : Int) := v_T.1
    have q178 := v_T.2.1
    rcases nR with ⟨n0_, n1_, n2_, n3_, n4_, n5_, n6_, nT_, nc_⟩ | ⟨n0_, n1_, n2_⟩
    · skip
      have b179 : IV (gV τ 22 0 16) 0 0 := ⟨by omega, by omega⟩
      refine m_aload_n C dX12_takePerson_144 rfl rfl ?_
      refine g_22_0 C q4_116 dX12_takePerson_145 ?_
      refine m_sipush (v := 174) C dX12_takePerson_148 (by decide) ?_
      refine m_iload_n C dX12_takePerson_151 rfl rfl ?_
      refine m_iadd C dX12_takePerson_152 ?_
      refine m_topi (fun x180 ex180 => ?_)
      have tx180 : x180.toInt = 174 + y1.toInt := by rw [ex180, ti_addv kc_174 b_y1 (by decide), kt_174]
      have b181 : IV x180 174 180 := by rw [ex180]; exact iv_add kc_174 b_y1 (by decide)
      refine m_iload_n C dX12_takePerson_153 rfl rfl ?_
      refine m_bipush (v := 99) C dX12_takePerson_154 (by decide) ?_
      refine m_icmp_ne (tgt := 163) C dX12_takePerson_156 (by decide) (fun c182 => ?_) (fun c182 => ?_)
      · have f183 : y3.toInt ≠ 99 := by
          have q : _ := c182
          simp only [ti_nle, ti_nlt, ti_le, ti_lt, ti_eq, ti_ne, Classical.not_not, kt_99] at q
          omega
        refine m_iload_n C dX12_takePerson_163 rfl rfl ?_
        refine as_23 C b181 (by decide) rfl dX12_takePerson_164 ?_
        refine m_tops (fun τ184 eτ184 => ?_)
        have i185 : Inv τ184 := eτ184 ▸ Inv.putRo iτ (by omega)
        have f186 : Fr MS_X12_takePersonS AS_X12_takePersonS σ τ184 := eτ184 ▸ Fr.put (fτ) (Or.inr (by decide))
        have v187 : CP (gV σ 23 0 152).toInt τ184 := v_CP.put eτ184 (Or.inr (fun q hq => by omega))
        have v188 : TpM τ184 T N := v_T.put eτ184 (Or.inl (by decide)) (by decide)
        have v189 : SFm σ τ184 := v_SM.put eτ184 (by omega)
        have v190 : PrM τ184 cc.toNat (PP T N) := v_PM.put eτ184 (by omega) (by omega)
        have v191 : (gV τ184 23 0 (153 + cc.toNat)).toInt = tQ T N (tE T N i) := (congrArg Int32.toInt (gV_putn eτ184 (Or.inr (Or.inr (by omega))))).trans v_K1
        have v192 : CQ (gV σ 23 0 152).toInt.toNat τ184 := v_CQ.put eτ184 (Or.inl (by decide)) (Or.inr (by omega))
        have v193 : (gV τ184 23 0 (160 + cc.toNat)).toInt = tV T (tE T N (tE T N i)) := (congrArg Int32.toInt (gV_putn eτ184 (Or.inr (Or.inr (by omega))))).trans n5_
        have v194 : (gV τ184 23 0 (167 + cc.toNat)).toInt = tV T (tE T N (tE T N (tE T N i))) := (congrArg Int32.toInt (gV_putn eτ184 (Or.inr (Or.inr (by omega))))).trans n6_
        have v195 : τ184.2.2.1 = τ.2.2.1 := by rw [eτ184]; rfl
        have v196 : CuM T N (tE T N (tE T N (tE T N (tE T N (tE T N i))))) τ184 := CuM.put nc_ eτ184 (Or.inl (by decide))
        refine m_sub (L1 := [some (.ref (G.1 22 0)), some (.int y1), none, none]) ⟨rfl, ⟨rfl, trivial⟩⟩ ?_
        have a197 : gV τ184 22 0 11 = (gV τ 22 0 11) := (show gV τ184 22 0 11 = (gV τ 22 0 11) from gV_put eτ184 rfl)
        have q198 : (gV τ184 22 0 11).toInt = (gV τ 22 0 11).toInt := congrArg Int32.toInt a197
        have a199 : gV τ184 22 0 12 = (gV τ 22 0 12) := (show gV τ184 22 0 12 = (gV τ 22 0 12) from gV_put eτ184 rfl)
        have q200 : (gV τ184 22 0 12).toInt = (gV τ 22 0 12).toInt := congrArg Int32.toInt a199
        have a201 : gV τ184 22 0 16 = (gV τ 22 0 16) := (show gV τ184 22 0 16 = (gV τ 22 0 16) from gV_put eτ184 rfl)
        have q202 : (gV τ184 22 0 16).toInt = (gV τ 22 0 16).toInt := congrArg Int32.toInt a201
        have a203 : gV τ184 22 0 6 = (gV τ 22 0 6) := (show gV τ184 22 0 6 = (gV τ 22 0 6) from gV_put eτ184 rfl)
        have q204 : (gV τ184 22 0 6).toInt = (gV τ 22 0 6).toInt := congrArg Int32.toInt a203
        have a205 : gV τ184 23 0 150 = (gV τ 23 0 150) := (show gV τ184 23 0 150 = (gV τ 23 0 150) from (gV_putn eτ184 (Or.inr (Or.inr (nat_ne b181 (by decide))))).trans rfl)
        have q206 : (gV τ184 23 0 150).toInt = (gV τ 23 0 150).toInt := congrArg Int32.toInt a205
        have a207 : gV τ184 23 0 152 = (gV τ 23 0 152) := (show gV τ184 23 0 152 = (gV τ 23 0 152) from (gV_putn eτ184 (Or.inr (Or.inr (nat_ne b181 (by decide))))).trans rfl)
        have q208 : (gV τ184 23 0 152).toInt = (gV τ 23 0 152).toInt := congrArg Int32.toInt a207
        have a209 : gV τ184 23 0 188 = (gV τ 23 0 188) := (show gV τ184 23 0 188 = (gV τ 23 0 188) from (gV_putn eτ184 (Or.inr (Or.inr (nat_ne b181 (by decide))))).trans rfl)
        have q210 : (gV τ184 23 0 188).toInt = (gV τ 23 0 188).toInt := congrArg Int32.toInt a209
        exact J165 τ184 y1 i185 f186 b_y1 v187 v192 v191 v190 v189 v188 (by omega) (Or.inl ⟨by omega, by omega, by omega, by omega, by omega, by omega, by omega, trivial, v196⟩)
      · have f211 : y3.toInt = 99 := by
          have q : _ := c182
          simp only [ti_nle, ti_nlt, ti_le, ti_lt, ti_eq, ti_ne, Classical.not_not, kt_99] at q
          omega
        have b212 : IV y3 99 99 := ⟨by have q1 := b_y3; have q2 := kc_99; omega, by have q1 := b_y3; have q2 := kc_99; omega⟩
        refine m_iconst (v := (-1)) C dX12_takePerson_159 (by decide) ?_
        refine m_goto (tgt := 164) C dX12_takePerson_160 (by decide) ?_
        refine as_23 C b181 (by decide) rfl dX12_takePerson_164 ?_
        refine m_tops (fun τ213 eτ213 => ?_)
        have i214 : Inv τ213 := eτ213 ▸ Inv.putRo iτ (by omega)
        have f215 : Fr MS_X12_takePersonS AS_X12_takePersonS σ τ213 := eτ213 ▸ Fr.put (fτ) (Or.inr (by decide))
        have v216 : CP (gV σ 23 0 152).toInt τ213 := v_CP.put eτ213 (Or.inr (fun q hq => by omega))
        have v217 : TpM τ213 T N := v_T.put eτ213 (Or.inl (by decide)) (by decide)
        have v218 : SFm σ τ213 := v_SM.put eτ213 (by omega)
        have v219 : PrM τ213 cc.toNat (PP T N) := v_PM.put eτ213 (by omega) (by omega)
        have v220 : (gV τ213 23 0 (153 + cc.toNat)).toInt = tQ T N (tE T N i) := (congrArg Int32.toInt (gV_putn eτ213 (Or.inr (Or.inr (by omega))))).trans v_K1
        have v221 : CQ (gV σ 23 0 152).toInt.toNat τ213 := v_CQ.put eτ213 (Or.inl (by decide)) (Or.inr (by omega))
        have v222 : (gV τ213 23 0 (160 + cc.toNat)).toInt = tV T (tE T N (tE T N i)) := (congrArg Int32.toInt (gV_putn eτ213 (Or.inr (Or.inr (by omega))))).trans n5_
        have v223 : (gV τ213 23 0 (167 + cc.toNat)).toInt = tV T (tE T N (tE T N (tE T N i))) := (congrArg Int32.toInt (gV_putn eτ213 (Or.inr (Or.inr (by omega))))).trans n6_
        have v224 : τ213.2.2.1 = τ.2.2.1 := by rw [eτ213]; rfl
        have v225 : CuM T N (tE T N (tE T N (tE T N (tE T N (tE T N i))))) τ213 := CuM.put nc_ eτ213 (Or.inl (by decide))
        refine m_sub (L1 := [some (.ref (G.1 22 0)), some (.int y1), none, none]) ⟨rfl, ⟨rfl, trivial⟩⟩ ?_
        have a226 : gV τ213 22 0 11 = (gV τ 22 0 11) := (show gV τ213 22 0 11 = (gV τ 22 0 11) from gV_put eτ213 rfl)
        have q227 : (gV τ213 22 0 11).toInt = (gV τ 22 0 11).toInt := congrArg Int32.toInt a226
        have a228 : gV τ213 22 0 12 = (gV τ 22 0 12) := (show gV τ213 22 0 12 = (gV τ 22 0 12) from gV_put eτ213 rfl)
        have q229 : (gV τ213 22 0 12).toInt = (gV τ 22 0 12).toInt := congrArg Int32.toInt a228
        have a230 : gV τ213 22 0 16 = (gV τ 22 0 16) := (show gV τ213 22 0 16 = (gV τ 22 0 16) from gV_put eτ213 rfl)
        have q231 : (gV τ213 22 0 16).toInt = (gV τ 22 0 16).toInt := congrArg Int32.toInt a230
        have a232 : gV τ213 22 0 6 = (gV τ 22 0 6) := (show gV τ213 22 0 6 = (gV τ 22 0 6) from gV_put eτ213 rfl)
        have q233 : (gV τ213 22 0 6).toInt = (gV τ 22 0 6).toInt := congrArg Int32.toInt a232
        have a234 : gV τ213 23 0 150 = (gV τ 23 0 150) := (show gV τ213 23 0 150 = (gV τ 23 0 150) from (gV_putn eτ213 (Or.inr (Or.inr (nat_ne b181 (by decide))))).trans rfl)
        have q235 : (gV τ213 23 0 150).toInt = (gV τ 23 0 150).toInt := congrArg Int32.toInt a234
        have a236 : gV τ213 23 0 152 = (gV τ 23 0 152) := (show gV τ213 23 0 152 = (gV τ 23 0 152) from (gV_putn eτ213 (Or.inr (Or.inr (nat_ne b181 (by decide))))).trans rfl)
        have q237 : (gV τ213 23 0 152).toInt = (gV τ 23 0 152).toInt := congrArg Int32.toInt a236
        have a238 : gV τ213 23 0 188 = (gV τ 23 0 188) := (show gV τ213 23 0 188 = (gV τ 23 0 188) from (gV_putn eτ213 (Or.inr (Or.inr (nat_ne b181 (by decide))))).trans rfl)
        have q239 : (gV τ213 23 0 188).toInt = (gV τ 23 0 188).toInt := congrArg Int32.toInt a238
        exact J165 τ213 y1 i214 f215 b_y1 v216 v221 v220 v219 v218 v217 (by omega) (Or.inl ⟨by omega, by omega, by omega, by omega, by omega, by omega, by omega, trivial, v225⟩)
    · skip
      have b240 : IV (gV τ 22 0 16) 1 3 := ⟨by omega, by omega⟩
      refine m_aload_n C dX12_takePerson_144 rfl rfl ?_
      refine g_22_0 C q4_116 dX12_takePerson_145 ?_
      refine m_sipush (v := 174) C dX12_takePerson_148 (by decide) ?_
      refine m_iload_n C dX12_takePerson_151 rfl rfl ?_
      refine m_iadd C dX12_takePerson_152 ?_
      refine m_topi (fun x241 ex241 => ?_)
      have tx241 : x241.toInt = 174 + y1.toInt := by rw [ex241, ti_addv kc_174 b_y1 (by decide), kt_174]
      have b242 : IV x241 174 180 := by rw [ex241]; exact iv_add kc_174 b_y1 (by decide)
      refine m_iload_n C dX12_takePerson_153 rfl rfl ?_
      refine m_bipush (v := 99) C dX12_takePerson_154 (by decide) ?_
      refine m_icmp_ne (tgt := 163) C dX12_takePerson_156 (by decide) (fun c243 => ?_) (fun c243 => ?_)
      · have f244 : y3.toInt ≠ 99 := by
          have q : _ := c243
          simp only [ti_nle, ti_nlt, ti_le, ti_lt, ti_eq, ti_ne, Classical.not_not, kt_99] at q
          omega
        refine m_iload_n C dX12_takePerson_163 rfl rfl ?_
        refine as_23 C b242 (by decide) rfl dX12_takePerson_164 ?_
        refine m_tops (fun τ245 eτ245 => ?_)
        have i246 : Inv τ245 := eτ245 ▸ Inv.putRo iτ (by omega)
        have f247 : Fr MS_X12_takePersonS AS_X12_takePersonS σ τ245 := eτ245 ▸ Fr.put (fτ) (Or.inr (by decide))
        have v248 : CP (gV σ 23 0 152).toInt τ245 := v_CP.put eτ245 (Or.inr (fun q hq => by omega))
        have v249 : TpM τ245 T N := v_T.put eτ245 (Or.inl (by decide)) (by decide)
        have v250 : SFm σ τ245 := v_SM.put eτ245 (by omega)
        have v251 : PrM τ245 cc.toNat (PP T N) := v_PM.put eτ245 (by omega) (by omega)
        have v252 : (gV τ245 23 0 (153 + cc.toNat)).toInt = tQ T N (tE T N i) := (congrArg Int32.toInt (gV_putn eτ245 (Or.inr (Or.inr (by omega))))).trans v_K1
        have v253 : CQ (gV σ 23 0 152).toInt.toNat τ245 := v_CQ.put eτ245 (Or.inl (by decide)) (Or.inr (by omega))
        have v254 : τ245.2.2.1 = τ.2.2.1 := by rw [eτ245]; rfl
        refine m_sub (L1 := [some (.ref (G.1 22 0)), some (.int y1), none, none]) ⟨rfl, ⟨rfl, trivial⟩⟩ ?_
        have a255 : gV τ245 22 0 11 = (gV τ 22 0 11) := (show gV τ245 22 0 11 = (gV τ 22 0 11) from gV_put eτ245 rfl)
        have q256 : (gV τ245 22 0 11).toInt = (gV τ 22 0 11).toInt := congrArg Int32.toInt a255
        have a257 : gV τ245 22 0 12 = (gV τ 22 0 12) := (show gV τ245 22 0 12 = (gV τ 22 0 12) from gV_put eτ245 rfl)
        have q258 : (gV τ245 22 0 12).toInt = (gV τ 22 0 12).toInt := congrArg Int32.toInt a257
        have a259 : gV τ245 22 0 16 = (gV τ 22 0 16) := (show gV τ245 22 0 16 = (gV τ 22 0 16) from gV_put eτ245 rfl)
        have q260 : (gV τ245 22 0 16).toInt = (gV τ 22 0 16).toInt := congrArg Int32.toInt a259
        have a261 : gV τ245 22 0 6 = (gV τ 22 0 6) := (show gV τ245 22 0 6 = (gV τ 22 0 6) from gV_put eτ245 rfl)
        have q262 : (gV τ245 22 0 6).toInt = (gV τ 22 0 6).toInt := congrArg Int32.toInt a261
        have a263 : gV τ245 23 0 150 = (gV τ 23 0 150) := (show gV τ245 23 0 150 = (gV τ 23 0 150) from (gV_putn eτ245 (Or.inr (Or.inr (nat_ne b242 (by decide))))).trans rfl)
        have q264 : (gV τ245 23 0 150).toInt = (gV τ 23 0 150).toInt := congrArg Int32.toInt a263
        have a265 : gV τ245 23 0 152 = (gV τ 23 0 152) := (show gV τ245 23 0 152 = (gV τ 23 0 152) from (gV_putn eτ245 (Or.inr (Or.inr (nat_ne b242 (by decide))))).trans rfl)
        have q266 : (gV τ245 23 0 152).toInt = (gV τ 23 0 152).toInt := congrArg Int32.toInt a265
        have a267 : gV τ245 23 0 188 = (gV τ 23 0 188) := (show gV τ245 23 0 188 = (gV τ 23 0 188) from (gV_putn eτ245 (Or.inr (Or.inr (nat_ne b242 (by decide))))).trans rfl)
        have q268 : (gV τ245 23 0 188).toInt = (gV τ 23 0 188).toInt := congrArg Int32.toInt a267
        exact J165 τ245 y1 i246 f247 b_y1 v248 v253 v252 v251 v250 v249 (by omega) (Or.inr (by exact ⟨by omega, by omega, by omega⟩))
      · have f269 : y3.toInt = 99 := by
          have q : _ := c243
          simp only [ti_nle, ti_nlt, ti_le, ti_lt, ti_eq, ti_ne, Classical.not_not, kt_99] at q
          omega
        have b270 : IV y3 99 99 := ⟨by have q1 := b_y3; have q2 := kc_99; omega, by have q1 := b_y3; have q2 := kc_99; omega⟩
        refine m_iconst (v := (-1)) C dX12_takePerson_159 (by decide) ?_
        refine m_goto (tgt := 164) C dX12_takePerson_160 (by decide) ?_
        refine as_23 C b242 (by decide) rfl dX12_takePerson_164 ?_
        refine m_tops (fun τ271 eτ271 => ?_)
        have i272 : Inv τ271 := eτ271 ▸ Inv.putRo iτ (by omega)
        have f273 : Fr MS_X12_takePersonS AS_X12_takePersonS σ τ271 := eτ271 ▸ Fr.put (fτ) (Or.inr (by decide))
        have v274 : CP (gV σ 23 0 152).toInt τ271 := v_CP.put eτ271 (Or.inr (fun q hq => by omega))
        have v275 : TpM τ271 T N := v_T.put eτ271 (Or.inl (by decide)) (by decide)
        have v276 : SFm σ τ271 := v_SM.put eτ271 (by omega)
        have v277 : PrM τ271 cc.toNat (PP T N) := v_PM.put eτ271 (by omega) (by omega)
        have v278 : (gV τ271 23 0 (153 + cc.toNat)).toInt = tQ T N (tE T N i) := (congrArg Int32.toInt (gV_putn eτ271 (Or.inr (Or.inr (by omega))))).trans v_K1
        have v279 : CQ (gV σ 23 0 152).toInt.toNat τ271 := v_CQ.put eτ271 (Or.inl (by decide)) (Or.inr (by omega))
        have v280 : τ271.2.2.1 = τ.2.2.1 := by rw [eτ271]; rfl
        refine m_sub (L1 := [some (.ref (G.1 22 0)), some (.int y1), none, none]) ⟨rfl, ⟨rfl, trivial⟩⟩ ?_
        have a281 : gV τ271 22 0 11 = (gV τ 22 0 11) := (show gV τ271 22 0 11 = (gV τ 22 0 11) from gV_put eτ271 rfl)
        have q282 : (gV τ271 22 0 11).toInt = (gV τ 22 0 11).toInt := congrArg Int32.toInt a281
        have a283 : gV τ271 22 0 12 = (gV τ 22 0 12) := (show gV τ271 22 0 12 = (gV τ 22 0 12) from gV_put eτ271 rfl)
        have q284 : (gV τ271 22 0 12).toInt = (gV τ 22 0 12).toInt := congrArg Int32.toInt a283
        have a285 : gV τ271 22 0 16 = (gV τ 22 0 16) := (show gV τ271 22 0 16 = (gV τ 22 0 16) from gV_put eτ271 rfl)
        have q286 : (gV τ271 22 0 16).toInt = (gV τ 22 0 16).toInt := congrArg Int32.toInt a285
        have a287 : gV τ271 22 0 6 = (gV τ 22 0 6) := (show gV τ271 22 0 6 = (gV τ 22 0 6) from gV_put eτ271 rfl)
        have q288 : (gV τ271 22 0 6).toInt = (gV τ 22 0 6).toInt := congrArg Int32.toInt a287
        have a289 : gV τ271 23 0 150 = (gV τ 23 0 150) := (show gV τ271 23 0 150 = (gV τ 23 0 150) from (gV_putn eτ271 (Or.inr (Or.inr (nat_ne b242 (by decide))))).trans rfl)
        have q290 : (gV τ271 23 0 150).toInt = (gV τ 23 0 150).toInt := congrArg Int32.toInt a289
        have a291 : gV τ271 23 0 152 = (gV τ 23 0 152) := (show gV τ271 23 0 152 = (gV τ 23 0 152) from (gV_putn eτ271 (Or.inr (Or.inr (nat_ne b242 (by decide))))).trans rfl)
        have q292 : (gV τ271 23 0 152).toInt = (gV τ 23 0 152).toInt := congrArg Int32.toInt a291
        have a293 : gV τ271 23 0 188 = (gV τ 23 0 188) := (show gV τ271 23 0 188 = (gV τ 23 0 188) from (gV_putn eτ271 (Or.inr (Or.inr (nat_ne b242 (by decide))))).trans rfl)
        have q294 : (gV τ271 23 0 188).toInt = (gV τ 23 0 188).toInt := congrArg Int32.toInt a293
        exact J165 τ271 y1 i272 f273 b_y1 v274 v279 v278 v277 v276 v275 (by omega) (Or.inr (by exact ⟨by omega, by omega, by omega⟩))
  have J115 : ∀ (τ : Sg) (y1 : Int32), Inv τ → Fr MS_X12_takePersonS AS_X12_takePersonS σ τ → IV y1 0 6 → (CP (gV σ 23 0 152).toInt τ) → (CQ (gV σ 23 0 152).toInt.toNat τ) → ((gV τ 23 0 (153 + cc.toNat)).toInt = tQ T N (tE T N i)) → (PrM τ cc.toNat (PP T N)) → (SFm σ τ) → (TpM τ T N) → (((gV τ 22 0 11).toInt ≤ (gV τ 22 0 6).toInt ∧ (gV τ 23 0 150).toInt = st ∧ (gV τ 23 0 152).toInt = cc ∧ (gV τ 23 0 188).toInt = (gV σ 23 0 188).toInt ∧ cc ≤ 6 ∧ y1.toInt = cc)) → ((((gV τ 22 0 16).toInt = 0 ∧ tQ T N (tE T N i) ≠ 0 ∧ (tK T N (tE T N (tE T N i)) = 2 ∧ 1 ≤ tV T (tE T N (tE T N i)) ∧ tV T (tE T N (tE T N i)) ≤ 20) ∧ (tK T N (tE T N (tE T N (tE T N i))) = 2 ∧ 1 ≤ tV T (tE T N (tE T N (tE T N i))) ∧ tV T (tE T N (tE T N (tE T N i))) ≤ 4) ∧ (gV τ 23 0 (160 + cc.toNat)).toInt = tV T (tE T N (tE T N i)) ∧ (gV τ 23 0 (167 + cc.toNat)).toInt = tV T (tE T N (tE T N (tE T N i))) ∧ True ∧ CuM T N (tE T N (tE T N (tE T N (tE T N i)))) τ) ∨ ((1 ≤ (gV τ 22 0 16).toInt ∧ (gV τ 22 0 16).toInt ≤ 3) ∧ perF T N st cc i = (gV τ 22 0 16).toInt ∧ ((gV τ 22 0 12).toInt = perP T N st cc i ∧ 0 ≤ (gV τ 22 0 12).toInt ∧ (gV τ 22 0 12).toInt ≤ 400)))) → MW p l e { frames := 3, cells := 0, slots := 0, locals := 69 } s m args below meth c (MQ below (QP G (PV fun τ => Inv τ ∧ Fr MS_X12_takePersonS AS_X12_takePersonS σ τ ∧ (((perF T N st cc i ≠ 0 ∧ ((gV τ 22 0 16).toInt = perF T N st cc i ∧ 1 ≤ (gV τ 22 0 16).toInt ∧ (gV τ 22 0 16).toInt ≤ 3) ∧ ((gV τ 22 0 12).toInt = perP T N st cc i ∧ 0 ≤ (gV τ 22 0 12).toInt ∧ (gV τ 22 0 12).toInt ≤ 400) ∧ ((gV τ 23 0 152).toInt = cc ∨ (gV τ 23 0 152).toInt = cc + 1) ∧ ((gV τ 23 0 150).toInt = (gV σ 23 0 150).toInt ∧ (gV τ 23 0 188).toInt = (gV σ 23 0 188).toInt) ∧ (gV τ 22 0 11).toInt ≤ (gV τ 22 0 6).toInt) ∨ (perF T N st cc i = 0 ∧ (gV τ 22 0 16).toInt = 0 ∧ (gV τ 23 0 152).toInt = cc + 1 ∧ ((gV τ 22 0 12).toInt = (tS T (tE T N (tE T N (tE T N (tE T N (tE T N (tE T N i)))))) : Int) ∧ (tK T N (tE T N (tE T N (tE T N (tE T N (tE T N (tE T N i)))))) ≠ 4 → (gV τ 22 0 11).toInt = (tE T N (tE T N (tE T N (tE T N (tE T N (tE T N (tE T N i)))))) : Int)) ∧ (gV τ 22 0 13).toInt = (tK T N (tE T N (tE T N (tE T N (tE T N (tE T N (tE T N i)))))) + 4) % 5 ∧ 0 ≤ tK T N (tE T N (tE T N (tE T N (tE T N (tE T N (tE T N i)))))) ∧ tK T N (tE T N (tE T N (tE T N (tE T N (tE T N (tE T N i)))))) ≤ 4 ∧ (tK T N (tE T N (tE T N (tE T N (tE T N (tE T N (tE T N i)))))) = 2 → (gV τ 22 0 15).toInt = tV T (tE T N (tE T N (tE T N (tE T N (tE T N (tE T N i))))))) ∧ (gV τ 22 0 12).toInt ≤ 400) ∧ ((gV τ 23 0 150).toInt = (gV σ 23 0 150).toInt ∧ (gV τ 23 0 188).toInt = (gV σ 23 0 188).toInt) ∧ (gV τ 22 0 11).toInt ≤ (gV τ 22 0 6).toInt ∧ Pb τ ∧ LW T N (tE T N (tE T N (tE T N (tE T N (tE T N (tE T N i)))))) τ.2.2.1)) ∧ SFm σ τ ∧ ((gV τ 22 0 16).toInt = 0 → PrM τ (cc + 1).toNat (PP T N))))) args s 0 0 (aG G)) 4 G 0 0 115 [some (.ref (G.1 22 0)), some (.int y1), none, none] [] τ := by
    intro τ y1 iτ fτ b_y1 v_CP v_CQ v_K1 v_PM v_SM v_T n295 nR
    have u296 : IV (gV τ 22 0 11) 0 400 := iτ.1 22 0 11
    have u297 : IV (gV τ 22 0 6) 0 400 := iτ.1 22 0 6
    have u298 : IV (gV τ 23 0 152) 0 7 := iτ.1 23 0 152
    have u299 : IV (gV τ 23 0 188) 0 4 := iτ.1 23 0 188
    have q300 : (gV τ 22 0 6).toInt = (N : Int) := v_T.1
    have q301 := v_T.2.1
    rcases nR with ⟨n0_, n1_, n2_, n3_, n4_, n5_, nT_, nc_⟩ | ⟨n0_, n1_, n2_⟩
    · skip
      have b302 : IV (gV τ 22 0 16) 0 0 := ⟨by omega, by omega⟩
      refine m_aload_n C dX12_takePerson_115 rfl rfl ?_
      refine g_22_16 C q4_132 dX12_takePerson_116 ?_
      refine m_eqs (w := (gV τ 22 0 16)) rfl ?_
      refine m_if_ne (tgt := 142) C dX12_takePerson_119 (by decide) (fun c303 => ?_) (fun c303 => ?_)
      · exfalso
        have q : _ := c303
        simp only [ti_nle, ti_nlt, ti_le, ti_lt, ti_eq, ti_ne, Classical.not_not, kt_0] at q
        have q1 := b302; have q2 := kc_0; omega
      · have f305 : (gV τ 22 0 16).toInt = 0 := by
          have q : _ := c303
          simp only [ti_nle, ti_nlt, ti_le, ti_lt, ti_eq, ti_ne, Classical.not_not, kt_0] at q
          omega
        refine m_aload_n C dX12_takePerson_122 rfl rfl ?_
        refine m_iconst (v := 0) C dX12_takePerson_123 (by decide) ?_
        refine m_aload_n C dX12_takePerson_124 rfl rfl ?_
        refine g_22_0 C q4_116 dX12_takePerson_125 ?_
        refine m_sipush (v := 150) C dX12_takePerson_128 (by decide) ?_
        refine al_23 C kc_150 (by decide) kn_150 dX12_takePerson_131 ?_
        refine m_eqs (w := (gV τ 23 0 150)) rfl ?_
        have b306 : IV (gV τ 23 0 150) 4 32 := ⟨by have q1 := (iv_any (gV τ 23 0 150)); omega, by have q1 := (iv_any (gV τ 23 0 150)); omega⟩
        refine m_iconst (v := 1) C dX12_takePerson_132 (by decide) ?_
        refine m_isub C dX12_takePerson_133 ?_
        refine m_topi (fun x307 ex307 => ?_)
        have tx307 : x307.toInt = (gV τ 23 0 150).toInt - 1 := by rw [ex307, ti_subv b306 kc_1 (by decide), kt_1]
        have b308 : IV x307 3 31 := by rw [ex307]; exact iv_sub b306 kc_1 (by decide)
        refine m_bipush (v := 99) C dX12_takePerson_134 (by decide) ?_
        have q309 := kt_0
        have q310 := kt_99
        refine m_callV (n := 3) (ci := 11) (st := []) C (c_X12_takeNumberE l G τ T N (tE T N (tE T N (tE T N (tE T N i)))) (0) (x307) (99) iτ v_T nc_.1 (by omega)) (by decide) (by decide) rfl rfl rfl q5_7 q5_4 q5_6 q0_30 q1_7 (by decide +kernel) rfl (by decide) (by decide) rfl (Nat.le_of_ble_eq_true rfl) dX12_takePerson_136 ?_
        rintro _ τ311 ⟨x314, rfl, i312, f313, b315, h317⟩
        have g316 : Fr MS_X12_takePersonS AS_X12_takePersonS σ τ311 := Fr.call (fτ) f313 (by decide)
        have v318 : CP (gV σ 23 0 152).toInt τ311 := v_CP.call (fun k => f313.1 23 0 k (by simp) (by decide))
        have v319 : TpM τ311 T N := v_T.fr f313 (by decide) (by decide) (by simp) (by decide)
        have v320 : SFm σ τ311 := v_SM.fr f313 (by simp) (by decide)
        have v321 : PrM τ311 cc.toNat (PP T N) := v_PM.call (fun k => f313.1 23 0 k (by simp) (by decide))
        have v322 : (gV τ311 23 0 (153 + cc.toNat)).toInt = tQ T N (tE T N i) := (congrArg Int32.toInt (f313.1 23 0 _ (by simp) (by decide))).trans v_K1
        have v323 : (gV τ311 23 0 (160 + cc.toNat)).toInt = tV T (tE T N (tE T N i)) := (congrArg Int32.toInt (f313.1 23 0 _ (by simp) (by decide))).trans n4_
        have v324 : (gV τ311 23 0 (167 + cc.toNat)).toInt = tV T (tE T N (tE T N (tE T N i))) := (congrArg Int32.toInt (f313.1 23 0 _ (by simp) (by decide))).trans n5_
        have u325 : IV (gV τ311 22 0 11) 0 400 := i312.1 22 0 11
        have a326 : gV τ311 22 0 6 = (gV τ 22 0 6) := (show gV τ311 22 0 6 = (gV τ 22 0 6) from (f313.1 22 0 (6) (by decide) (by decide)).trans rfl)
        have q327 : (gV τ311 22 0 6).toInt = (gV τ 22 0 6).toInt := congrArg Int32.toInt a326
        have a328 : gV τ311 23 0 150 = (gV τ 23 0 150) := (show gV τ311 23 0 150 = (gV τ 23 0 150) from (f313.1 23 0 (150) (by decide) (by decide)).trans rfl)
        have q329 : (gV τ311 23 0 150).toInt = (gV τ 23 0 150).toInt := congrArg Int32.toInt a328
        have a330 : gV τ311 23 0 152 = (gV τ 23 0 152) := (show gV τ311 23 0 152 = (gV τ 23 0 152) from (f313.1 23 0 (152) (by decide) (by decide)).trans rfl)
        have q331 : (gV τ311 23 0 152).toInt = (gV τ 23 0 152).toInt := congrArg Int32.toInt a330
        have a332 : gV τ311 23 0 188 = (gV τ 23 0 188) := (show gV τ311 23 0 188 = (gV τ 23 0 188) from (f313.1 23 0 (188) (by decide) (by decide)).trans rfl)
        have q333 : (gV τ311 23 0 188).toInt = (gV τ 23 0 188).toInt := congrArg Int32.toInt a332
        rcases h317 with ⟨h317_0, h317_1, h317_2, h317_3, h317_4⟩ | ⟨h317_0, h317_1, h317_2, h317_3, h317_4, h317_5, h317_6⟩ | ⟨h317_0, h317_1, h317_2, h317_3, h317_4, h317_5, h317_6⟩
        · skip
          have b334 : IV x314 (-1) (-1) := ⟨by omega, by omega⟩
          have v335 : CQ (gV σ 23 0 152).toInt.toNat τ311 := v_CQ.call (fun q => by omega) (fun k => f313.1 23 0 k (by simp) (by decide))
          have b336 : IV (gV τ311 22 0 16) 1 1 := ⟨by omega, by omega⟩
          show MW p l e _ s m args below meth c _ 4 G 0 0 139 [some (.ref (G.1 22 0)), some (.int y1), none, none] [.int x314] τ311
          refine m_goto (tgt := 143) C dX12_takePerson_139 (by decide) ?_
          refine m_istore_n (L1 := [some (.ref (G.1 22 0)), some (.int y1), none, some (.int x314)]) C dX12_takePerson_143 rfl (by decide) rfl rfl ?_
          exact J144 τ311 y1 x314 i312 g316 b_y1 (iv_wk b334 (by decide)) v318 v335 v322 v321 v320 v319 (by omega) (Or.inr (by have qd := per_6 T N st cc i (by omega) (by omega) (by omega) (by omega) (by omega) (by omega) (by omega); exact ⟨by omega, by omega, by omega⟩))
        · skip
          have b337 : IV x314 (-1) (-1) := ⟨by omega, by omega⟩
          have v338 : CQ (gV σ 23 0 152).toInt.toNat τ311 := v_CQ.call (fun q => by omega) (fun k => f313.1 23 0 k (by simp) (by decide))
          have b339 : IV (gV τ311 22 0 16) 2 2 := ⟨by omega, by omega⟩
          show MW p l e _ s m args below meth c _ 4 G 0 0 139 [some (.ref (G.1 22 0)), some (.int y1), none, none] [.int x314] τ311
          refine m_goto (tgt := 143) C dX12_takePerson_139 (by decide) ?_
          refine m_istore_n (L1 := [some (.ref (G.1 22 0)), some (.int y1), none, some (.int x314)]) C dX12_takePerson_143 rfl (by decide) rfl rfl ?_
          exact J144 τ311 y1 x314 i312 g316 b_y1 (iv_wk b337 (by decide)) v318 v338 v322 v321 v320 v319 (by omega) (Or.inr (by have qd := per_7 T N st cc i (by omega) (by omega) (by omega) (by omega) (by omega) (by omega) (by omega) (by omega); exact ⟨by omega, by omega, by omega⟩))
        · skip
          have v340 : CQ (gV σ 23 0 152).toInt.toNat τ311 := v_CQ.call (fun q => by omega) (fun k => f313.1 23 0 k (by simp) (by decide))
          have v341 : CuM T N (tE T N (tE T N (tE T N (tE T N (tE T N i))))) τ311 := ⟨h317_4, h317_5⟩
          clear h317_4
          have b342 : IV (gV τ311 22 0 16) 0 0 := ⟨by omega, by omega⟩
          show MW p l e _ s m args below meth c _ 4 G 0 0 139 [some (.ref (G.1 22 0)), some (.int y1), none, none] [.int x314] τ311
          refine m_goto (tgt := 143) C dX12_takePerson_139 (by decide) ?_
          refine m_istore_n (L1 := [some (.ref (G.1 22 0)), some (.int y1), none, some (.int x314)]) C dX12_takePerson_143 rfl (by decide) rfl rfl ?_
          exact J144 τ311 y1 x314 i312 g316 b_y1 b315 v318 v340 v322 v321 v320 v319 (by omega) (Or.inl ⟨by omega, by omega, by omega, by omega, by omega, by omega, by omega, trivial, v341⟩)
    · skip
      have b343 : IV (gV τ 22 0 16) 1 3 := ⟨by omega, by omega⟩
      refine m_aload_n C dX12_takePerson_115 rfl rfl ?_
      refine g_22_16 C q4_132 dX12_takePerson_116 ?_
      refine m_eqs (w := (gV τ 22 0 16)) rfl ?_
      refine m_if_ne (tgt := 142) C dX12_takePerson_119 (by decide) (fun c344 => ?_) (fun c344 => ?_)
      · have f345 : (gV τ 22 0 16).toInt ≠ 0 := by
          have q : _ := c344
          simp only [ti_nle, ti_nlt, ti_le, ti_lt, ti_eq, ti_ne, Classical.not_not, kt_0] at q
          omega
        refine m_iconst (v := 0) C dX12_takePerson_142 (by decide) ?_
        refine m_istore_n (L1 := [some (.ref (G.1 22 0)), some (.int y1), none, some (.int 0)]) C dX12_takePerson_143 rfl (by decide) rfl rfl ?_
        exact J144 τ y1 0 iτ fτ b_y1 (iv_wk kc_0 (by decide)) v_CP v_CQ v_K1 v_PM v_SM v_T (by omega) (Or.inr (by exact ⟨by omega, by omega, by omega⟩))
      · exfalso
        have q : _ := c344
        simp only [ti_nle, ti_nlt, ti_le, ti_lt, ti_eq, ti_ne, Classical.not_not, kt_0] at q
        have q1 := b343; have q2 := kc_0; omega
  have J87 : ∀ (τ : Sg) (y1 : Int32), Inv τ → Fr MS_X12_takePersonS AS_X12_takePersonS σ τ → IV y1 0 6 → (CP (gV σ 23 0 152).toInt τ) → ((gV τ 23 0 (153 + cc.toNat)).toInt = tQ T N (tE T N i)) → (PrM τ cc.toNat (PP T N)) → (SFm σ τ) → (TpM τ T N) → (((gV τ 22 0 11).toInt ≤ (gV τ 22 0 6).toInt ∧ (gV τ 23 0 150).toInt = st ∧ (gV τ 23 0 152).toInt = cc ∧ (gV τ 23 0 188).toInt = (gV σ 23 0 188).toInt ∧ cc ≤ 6 ∧ y1.toInt = cc)) → ((((gV τ 22 0 16).toInt = 0 ∧ tQ T N (tE T N i) ≠ 0 ∧ (tK T N (tE T N (tE T N i)) = 2 ∧ 1 ≤ tV T (tE T N (tE T N i)) ∧ tV T (tE T N (tE T N i)) ≤ 20) ∧ (gV τ 23 0 (160 + cc.toNat)).toInt = tV T (tE T N (tE T N i)) ∧ True ∧ CuM T N (tE T N (tE T N (tE T N i))) τ) ∨ ((1 ≤ (gV τ 22 0 16).toInt ∧ (gV τ 22 0 16).toInt ≤ 3) ∧ perF T N st cc i = (gV τ 22 0 16).toInt ∧ ((gV τ 22 0 12).toInt = perP T N st cc i ∧ 0 ≤ (gV τ 22 0 12).toInt ∧ (gV τ 22 0 12).toInt ≤ 400)))) → MW p l e { frames := 3, cells := 0, slots := 0, locals := 69 } s m args below meth c (MQ below (QP G (PV fun τ => Inv τ ∧ Fr MS_X12_takePersonS AS_X12_takePersonS σ τ ∧ (((perF T N st cc i ≠ 0 ∧ ((gV τ 22 0 16).toInt = perF T N st cc i ∧ 1 ≤ (gV τ 22 0 16).toInt ∧ (gV τ 22 0 16).toInt ≤ 3) ∧ ((gV τ 22 0 12).toInt = perP T N st cc i ∧ 0 ≤ (gV τ 22 0 12).toInt ∧ (gV τ 22 0 12).toInt ≤ 400) ∧ ((gV τ 23 0 152).toInt = cc ∨ (gV τ 23 0 152).toInt = cc + 1) ∧ ((gV τ 23 0 150).toInt = (gV σ 23 0 150).toInt ∧ (gV τ 23 0 188).toInt = (gV σ 23 0 188).toInt) ∧ (gV τ 22 0 11).toInt ≤ (gV τ 22 0 6).toInt) ∨ (perF T N st cc i = 0 ∧ (gV τ 22 0 16).toInt = 0 ∧ (gV τ 23 0 152).toInt = cc + 1 ∧ ((gV τ 22 0 12).toInt = (tS T (tE T N (tE T N (tE T N (tE T N (tE T N (tE T N i)))))) : Int) ∧ (tK T N (tE T N (tE T N (tE T N (tE T N (tE T N (tE T N i)))))) ≠ 4 → (gV τ 22 0 11).toInt = (tE T N (tE T N (tE T N (tE T N (tE T N (tE T N (tE T N i)))))) : Int)) ∧ (gV τ 22 0 13).toInt = (tK T N (tE T N (tE T N (tE T N (tE T N (tE T N (tE T N i)))))) + 4) % 5 ∧ 0 ≤ tK T N (tE T N (tE T N (tE T N (tE T N (tE T N (tE T N i)))))) ∧ tK T N (tE T N (tE T N (tE T N (tE T N (tE T N (tE T N i)))))) ≤ 4 ∧ (tK T N (tE T N (tE T N (tE T N (tE T N (tE T N (tE T N i)))))) = 2 → (gV τ 22 0 15).toInt = tV T (tE T N (tE T N (tE T N (tE T N (tE T N (tE T N i))))))) ∧ (gV τ 22 0 12).toInt ≤ 400) ∧ ((gV τ 23 0 150).toInt = (gV σ 23 0 150).toInt ∧ (gV τ 23 0 188).toInt = (gV σ 23 0 188).toInt) ∧ (gV τ 22 0 11).toInt ≤ (gV τ 22 0 6).toInt ∧ Pb τ ∧ LW T N (tE T N (tE T N (tE T N (tE T N (tE T N (tE T N i)))))) τ.2.2.1)) ∧ SFm σ τ ∧ ((gV τ 22 0 16).toInt = 0 → PrM τ (cc + 1).toNat (PP T N))))) args s 0 0 (aG G)) 4 G 0 0 87 [some (.ref (G.1 22 0)), some (.int y1), none, none] [] τ := by
    intro τ y1 iτ fτ b_y1 v_CP v_K1 v_PM v_SM v_T n347 nR
    have u348 : IV (gV τ 22 0 11) 0 400 := iτ.1 22 0 11
    have u349 : IV (gV τ 22 0 6) 0 400 := iτ.1 22 0 6
    have u350 : IV (gV τ 23 0 152) 0 7 := iτ.1 23 0 152
    have u351 : IV (gV τ 23 0 188) 0 4 := iτ.1 23 0 188
    have q352 : (gV τ 22 0 6).toInt = (N : Int) := v_T.1
    have q353 := v_T.2.1
    rcases nR with ⟨n0_, n1_, n2_, n3_, nT_, nc_⟩ | ⟨n0_, n1_, n2_⟩
    · skip
      have b354 : IV (gV τ 22 0 16) 0 0 := ⟨by omega, by omega⟩
      refine m_aload_n C dX12_takePerson_87 rfl rfl ?_
      refine g_22_0 C q4_116 dX12_takePerson_88 ?_
      refine m_sipush (v := 167) C dX12_takePerson_91 (by decide) ?_
      refine m_iload_n C dX12_takePerson_94 rfl rfl ?_
      refine m_iadd C dX12_takePerson_95 ?_
      refine m_topi (fun x355 ex355 => ?_)
      have tx355 : x355.toInt = 167 + y1.toInt := by rw [ex355, ti_addv kc_167 b_y1 (by decide), kt_167]
      have b356 : IV x355 167 173 := by rw [ex355]; exact iv_add kc_167 b_y1 (by decide)
      refine m_aload_n C dX12_takePerson_96 rfl rfl ?_
      refine g_22_16 C q4_132 dX12_takePerson_97 ?_
      refine m_eqs (w := (gV τ 22 0 16)) rfl ?_
      refine m_if_ne (tgt := 113) C dX12_takePerson_100 (by decide) (fun c357 => ?_) (fun c357 => ?_)
      · exfalso
        have q : _ := c357
        simp only [ti_nle, ti_nlt, ti_le, ti_lt, ti_eq, ti_ne, Classical.not_not, kt_0] at q
        have q1 := b354; have q2 := kc_0; omega
      · have f359 : (gV τ 22 0 16).toInt = 0 := by
          have q : _ := c357
          simp only [ti_nle, ti_nlt, ti_le, ti_lt, ti_eq, ti_ne, Classical.not_not, kt_0] at q
          omega
        refine m_aload_n C dX12_takePerson_103 rfl rfl ?_
        refine m_iconst (v := 1) C dX12_takePerson_104 (by decide) ?_
        refine m_iconst (v := 4) C dX12_takePerson_105 (by decide) ?_
        refine m_iconst (v := 1) C dX12_takePerson_106 (by decide) ?_
        have q360 := kt_1
        have q361 := kt_4
        have q362 := kt_1
        refine m_callV (n := 3) (ci := 11) (st := [.int x355, .ref (G.1 23 0)]) C (c_X12_takeNumberE l G τ T N (tE T N (tE T N (tE T N i))) (1) (4) (1) iτ v_T nc_.1 (by omega)) (by decide) (by decide) rfl rfl rfl q5_7 q5_4 q5_6 q0_30 q1_7 (by decide +kernel) rfl (by decide) (by decide) rfl (Nat.le_of_ble_eq_true rfl) dX12_takePerson_107 ?_
        rintro _ τ363 ⟨x366, rfl, i364, f365, b367, h369⟩
        have g368 : Fr MS_X12_takePersonS AS_X12_takePersonS σ τ363 := Fr.call (fτ) f365 (by decide)
        have v370 : CP (gV σ 23 0 152).toInt τ363 := v_CP.call (fun k => f365.1 23 0 k (by simp) (by decide))
        have v371 : TpM τ363 T N := v_T.fr f365 (by decide) (by decide) (by simp) (by decide)
        have v372 : SFm σ τ363 := v_SM.fr f365 (by simp) (by decide)
        have v373 : PrM τ363 cc.toNat (PP T N) := v_PM.call (fun k => f365.1 23 0 k (by simp) (by decide))
        have v374 : (gV τ363 23 0 (153 + cc.toNat)).toInt = tQ T N (tE T N i) := (congrArg Int32.toInt (f365.1 23 0 _ (by simp) (by decide))).trans v_K1
        have v375 : (gV τ363 23 0 (160 + cc.toNat)).toInt = tV T (tE T N (tE T N i)) := (congrArg Int32.toInt (f365.1 23 0 _ (by simp) (by decide))).trans n3_
        have u376 : IV (gV τ363 22 0 11) 0 400 := i364.1 22 0 11
        have a377 : gV τ363 22 0 6 = (gV τ 22 0 6) := (show gV τ363 22 0 6 = (gV τ 22 0 6) from (f365.1 22 0 (6) (by decide) (by decide)).trans rfl)
        have q378 : (gV τ363 22 0 6).toInt = (gV τ 22 0 6).toInt := congrArg Int32.toInt a377
        have a379 : gV τ363 23 0 150 = (gV τ 23 0 150) := (show gV τ363 23 0 150 = (gV τ 23 0 150) from (f365.1 23 0 (150) (by decide) (by decide)).trans rfl)
        have q380 : (gV τ363 23 0 150).toInt = (gV τ 23 0 150).toInt := congrArg Int32.toInt a379
        have a381 : gV τ363 23 0 152 = (gV τ 23 0 152) := (show gV τ363 23 0 152 = (gV τ 23 0 152) from (f365.1 23 0 (152) (by decide) (by decide)).trans rfl)
        have q382 : (gV τ363 23 0 152).toInt = (gV τ 23 0 152).toInt := congrArg Int32.toInt a381
        have a383 : gV τ363 23 0 188 = (gV τ 23 0 188) := (show gV τ363 23 0 188 = (gV τ 23 0 188) from (f365.1 23 0 (188) (by decide) (by decide)).trans rfl)
        have q384 : (gV τ363 23 0 188).toInt = (gV τ 23 0 188).toInt := congrArg Int32.toInt a383
        rcases h369 with ⟨h369_0, h369_1, h369_2, h369_3, h369_4⟩ | ⟨h369_0, h369_1, h369_2, h369_3, h369_4, h369_5, h369_6⟩ | ⟨h369_0, h369_1, h369_2, h369_3, h369_4, h369_5, h369_6⟩
        · skip
          have b385 : IV x366 (-1) (-1) := ⟨by omega, by omega⟩
          have b386 : IV (gV τ363 22 0 16) 1 1 := ⟨by omega, by omega⟩
          show MW p l e _ s m args below meth c _ 4 G 0 0 110 [some (.ref (G.1 22 0)), some (.int y1), none, none] [.int x366, .int x355, .ref (G.1 23 0)] τ363
          refine m_goto (tgt := 114) C dX12_takePerson_110 (by decide) ?_
          refine as_23 C b356 (by decide) rfl dX12_takePerson_114 ?_
          refine m_tops (fun τ387 eτ387 => ?_)
          have i388 : Inv τ387 := eτ387 ▸ Inv.putRo i364 (by omega)
          have f389 : Fr MS_X12_takePersonS AS_X12_takePersonS σ τ387 := eτ387 ▸ Fr.put (g368) (Or.inr (by decide))
          have v390 : CP (gV σ 23 0 152).toInt τ387 := v370.put eτ387 (Or.inr (fun q hq => by omega))
          have v391 : TpM τ387 T N := v371.put eτ387 (Or.inl (by decide)) (by decide)
          have v392 : SFm σ τ387 := v372.put eτ387 (by omega)
          have v393 : PrM τ387 cc.toNat (PP T N) := v373.put eτ387 (by omega) (by omega)
          have v394 : (gV τ387 23 0 (153 + cc.toNat)).toInt = tQ T N (tE T N i) := (congrArg Int32.toInt (gV_putn eτ387 (Or.inr (Or.inr (by omega))))).trans v374
          have v395 : (gV τ387 23 0 (160 + cc.toNat)).toInt = tV T (tE T N (tE T N i)) := (congrArg Int32.toInt (gV_putn eτ387 (Or.inr (Or.inr (by omega))))).trans v375
          have a396 : gV τ387 22 0 6 = (gV τ 22 0 6) := (show gV τ387 22 0 6 = (gV τ 22 0 6) from gV_put eτ387 a377)
          have q397 : (gV τ387 22 0 6).toInt = (gV τ 22 0 6).toInt := congrArg Int32.toInt a396
          have a398 : gV τ387 23 0 150 = (gV τ 23 0 150) := (show gV τ387 23 0 150 = (gV τ 23 0 150) from (gV_putn eτ387 (Or.inr (Or.inr (nat_ne b356 (by decide))))).trans a379)
          have q399 : (gV τ387 23 0 150).toInt = (gV τ 23 0 150).toInt := congrArg Int32.toInt a398
          have a400 : gV τ387 23 0 152 = (gV τ 23 0 152) := (show gV τ387 23 0 152 = (gV τ 23 0 152) from (gV_putn eτ387 (Or.inr (Or.inr (nat_ne b356 (by decide))))).trans a381)
          have q401 : (gV τ387 23 0 152).toInt = (gV τ 23 0 152).toInt := congrArg Int32.toInt a400
          have a402 : gV τ387 23 0 188 = (gV τ 23 0 188) := (show gV τ387 23 0 188 = (gV τ 23 0 188) from (gV_putn eτ387 (Or.inr (Or.inr (nat_ne b356 (by decide))))).trans a383)
          have q403 : (gV τ387 23 0 188).toInt = (gV τ 23 0 188).toInt := congrArg Int32.toInt a402
          have a404 : gV τ387 22 0 11 = (gV τ363 22 0 11) := (show gV τ387 22 0 11 = (gV τ363 22 0 11) from gV_put eτ387 rfl)
          have q405 : (gV τ387 22 0 11).toInt = (gV τ363 22 0 11).toInt := congrArg Int32.toInt a404
          have a406 : gV τ387 22 0 12 = (gV τ363 22 0 12) := (show gV τ387 22 0 12 = (gV τ363 22 0 12) from gV_put eτ387 rfl)
          have q407 : (gV τ387 22 0 12).toInt = (gV τ363 22 0 12).toInt := congrArg Int32.toInt a406
          have a408 : gV τ387 22 0 16 = (gV τ363 22 0 16) := (show gV τ387 22 0 16 = (gV τ363 22 0 16) from gV_put eτ387 rfl)
          have q409 : (gV τ387 22 0 16).toInt = (gV τ363 22 0 16).toInt := congrArg Int32.toInt a408
          have v410 : CQ (gV σ 23 0 152).toInt.toNat τ387 := by
            intro q
            have q1 : gV τ387 23 0 (x355.toInt.toNat) = x366 := (show gV τ387 23 0 (x355.toInt.toNat) = x366 from gV_put eτ387 (gV_self _ _ _ _ _))
            rw [show 167 + (gV σ 23 0 152).toInt.toNat = (x355.toInt.toNat) by omega, q1]
            omega
          exact J115 τ387 y1 i388 f389 b_y1 v390 v410 v394 v393 v392 v391 (by omega) (Or.inr (by have qd := per_4 T N st cc i (by omega) (by omega) (by omega) (by omega) (by omega); exact ⟨by omega, by omega, by omega⟩))
        · skip
          have b411 : IV x366 (-1) (-1) := ⟨by omega, by omega⟩
          have b412 : IV (gV τ363 22 0 16) 2 2 := ⟨by omega, by omega⟩
          show MW p l e _ s m args below meth c _ 4 G 0 0 110 [some (.ref (G.1 22 0)), some (.int y1), none, none] [.int x366, .int x355, .ref (G.1 23 0)] τ363
          refine m_goto (tgt := 114) C dX12_takePerson_110 (by decide) ?_
          refine as_23 C b356 (by decide) rfl dX12_takePerson_114 ?_
          refine m_tops (fun τ413 eτ413 => ?_)
          have i414 : Inv τ413 := eτ413 ▸ Inv.putRo i364 (by omega)
          have f415 : Fr MS_X12_takePersonS AS_X12_takePersonS σ τ413 := eτ413 ▸ Fr.put (g368) (Or.inr (by decide))
          have v416 : CP (gV σ 23 0 152).toInt τ413 := v370.put eτ413 (Or.inr (fun q hq => by omega))
          have v417 : TpM τ413 T N := v371.put eτ413 (Or.inl (by decide)) (by decide)
          have v418 : SFm σ τ413 := v372.put eτ413 (by omega)
          have v419 : PrM τ413 cc.toNat (PP T N) := v373.put eτ413 (by omega) (by omega)
          have v420 : (gV τ413 23 0 (153 + cc.toNat)).toInt = tQ T N (tE T N i) := (congrArg Int32.toInt (gV_putn eτ413 (Or.inr (Or.inr (by omega))))).trans v374
          have v421 : (gV τ413 23 0 (160 + cc.toNat)).toInt = tV T (tE T N (tE T N i)) := (congrArg Int32.toInt (gV_putn eτ413 (Or.inr (Or.inr (by omega))))).trans v375
          have a422 : gV τ413 22 0 6 = (gV τ 22 0 6) := (show gV τ413 22 0 6 = (gV τ 22 0 6) from gV_put eτ413 a377)
          have q423 : (gV τ413 22 0 6).toInt = (gV τ 22 0 6).toInt := congrArg Int32.toInt a422
          have a424 : gV τ413 23 0 150 = (gV τ 23 0 150) := (show gV τ413 23 0 150 = (gV τ 23 0 150) from (gV_putn eτ413 (Or.inr (Or.inr (nat_ne b356 (by decide))))).trans a379)
          have q425 : (gV τ413 23 0 150).toInt = (gV τ 23 0 150).toInt := congrArg Int32.toInt a424
          have a426 : gV τ413 23 0 152 = (gV τ 23 0 152) := (show gV τ413 23 0 152 = (gV τ 23 0 152) from (gV_putn eτ413 (Or.inr (Or.inr (nat_ne b356 (by decide))))).trans a381)
          have q427 : (gV τ413 23 0 152).toInt = (gV τ 23 0 152).toInt := congrArg Int32.toInt a426
          have a428 : gV τ413 23 0 188 = (gV τ 23 0 188) := (show gV τ413 23 0 188 = (gV τ 23 0 188) from (gV_putn eτ413 (Or.inr (Or.inr (nat_ne b356 (by decide))))).trans a383)
          have q429 : (gV τ413 23 0 188).toInt = (gV τ 23 0 188).toInt := congrArg Int32.toInt a428
          have a430 : gV τ413 22 0 11 = (gV τ363 22 0 11) := (show gV τ413 22 0 11 = (gV τ363 22 0 11) from gV_put eτ413 rfl)
          have q431 : (gV τ413 22 0 11).toInt = (gV τ363 22 0 11).toInt := congrArg Int32.toInt a430
          have a432 : gV τ413 22 0 12 = (gV τ363 22 0 12) := (show gV τ413 22 0 12 = (gV τ363 22 0 12) from gV_put eτ413 rfl)
          have q433 : (gV τ413 22 0 12).toInt = (gV τ363 22 0 12).toInt := congrArg Int32.toInt a432
          have a434 : gV τ413 22 0 16 = (gV τ363 22 0 16) := (show gV τ413 22 0 16 = (gV τ363 22 0 16) from gV_put eτ413 rfl)
          have q435 : (gV τ413 22 0 16).toInt = (gV τ363 22 0 16).toInt := congrArg Int32.toInt a434
          have v436 : CQ (gV σ 23 0 152).toInt.toNat τ413 := by
            intro q
            have q1 : gV τ413 23 0 (x355.toInt.toNat) = x366 := (show gV τ413 23 0 (x355.toInt.toNat) = x366 from gV_put eτ413 (gV_self _ _ _ _ _))
            rw [show 167 + (gV σ 23 0 152).toInt.toNat = (x355.toInt.toNat) by omega, q1]
            omega
          exact J115 τ413 y1 i414 f415 b_y1 v416 v436 v420 v419 v418 v417 (by omega) (Or.inr (by have qd := per_5 T N st cc i (by omega) (by omega) (by omega) (by omega) (by omega) (by omega); exact ⟨by omega, by omega, by omega⟩))
        · skip
          have q437 : 1 ≤ tV T (tE T N (tE T N (tE T N i))) ∧ tV T (tE T N (tE T N (tE T N i))) ≤ 4 := by omega
          clear h369_1
          have v438 : CuM T N (tE T N (tE T N (tE T N (tE T N i)))) τ363 := ⟨h369_4, h369_5⟩
          clear h369_4
          have b439 : IV (gV τ363 22 0 16) 0 0 := ⟨by omega, by omega⟩
          show MW p l e _ s m args below meth c _ 4 G 0 0 110 [some (.ref (G.1 22 0)), some (.int y1), none, none] [.int x366, .int x355, .ref (G.1 23 0)] τ363
          refine m_goto (tgt := 114) C dX12_takePerson_110 (by decide) ?_
          refine as_23 C b356 (by decide) rfl dX12_takePerson_114 ?_
          refine m_tops (fun τ440 eτ440 => ?_)
          have i441 : Inv τ440 := eτ440 ▸ Inv.putRo i364 (by omega)
          have f442 : Fr MS_X12_takePersonS AS_X12_takePersonS σ τ440 := eτ440 ▸ Fr.put (g368) (Or.inr (by decide))
          have v443 : CP (gV σ 23 0 152).toInt τ440 := v370.put eτ440 (Or.inr (fun q hq => by omega))
          have v444 : TpM τ440 T N := v371.put eτ440 (Or.inl (by decide)) (by decide)
          have v445 : SFm σ τ440 := v372.put eτ440 (by omega)
          have v446 : PrM τ440 cc.toNat (PP T N) := v373.put eτ440 (by omega) (by omega)
          have v447 : (gV τ440 23 0 (153 + cc.toNat)).toInt = tQ T N (tE T N i) := (congrArg Int32.toInt (gV_putn eτ440 (Or.inr (Or.inr (by omega))))).trans v374
          have v448 : (gV τ440 23 0 (160 + cc.toNat)).toInt = tV T (tE T N (tE T N i)) := (congrArg Int32.toInt (gV_putn eτ440 (Or.inr (Or.inr (by omega))))).trans v375
          have v449 : LW T N (tE T N (tE T N (tE T N (tE T N i)))) τ440.2.2.1 := by rw [eτ440]; exact h369_6
          have v450 : CuM T N (tE T N (tE T N (tE T N (tE T N i)))) τ440 := CuM.put v438 eτ440 (Or.inl (by decide))
          have a451 : gV τ440 22 0 6 = (gV τ 22 0 6) := (show gV τ440 22 0 6 = (gV τ 22 0 6) from gV_put eτ440 a377)
          have q452 : (gV τ440 22 0 6).toInt = (gV τ 22 0 6).toInt := congrArg Int32.toInt a451
          have a453 : gV τ440 23 0 150 = (gV τ 23 0 150) := (show gV τ440 23 0 150 = (gV τ 23 0 150) from (gV_putn eτ440 (Or.inr (Or.inr (nat_ne b356 (by decide))))).trans a379)
          have q454 : (gV τ440 23 0 150).toInt = (gV τ 23 0 150).toInt := congrArg Int32.toInt a453
          have a455 : gV τ440 23 0 152 = (gV τ 23 0 152) := (show gV τ440 23 0 152 = (gV τ 23 0 152) from (gV_putn eτ440 (Or.inr (Or.inr (nat_ne b356 (by decide))))).trans a381)
          have q456 : (gV τ440 23 0 152).toInt = (gV τ 23 0 152).toInt := congrArg Int32.toInt a455
          have a457 : gV τ440 23 0 188 = (gV τ 23 0 188) := (show gV τ440 23 0 188 = (gV τ 23 0 188) from (gV_putn eτ440 (Or.inr (Or.inr (nat_ne b356 (by decide))))).trans a383)
          have q458 : (gV τ440 23 0 188).toInt = (gV τ 23 0 188).toInt := congrArg Int32.toInt a457
          have a459 : gV τ440 22 0 11 = (gV τ363 22 0 11) := (show gV τ440 22 0 11 = (gV τ363 22 0 11) from gV_put eτ440 rfl)
          have q460 : (gV τ440 22 0 11).toInt = (gV τ363 22 0 11).toInt := congrArg Int32.toInt a459
          have a461 : gV τ440 22 0 12 = (gV τ363 22 0 12) := (show gV τ440 22 0 12 = (gV τ363 22 0 12) from gV_put eτ440 rfl)
          have q462 : (gV τ440 22 0 12).toInt = (gV τ363 22 0 12).toInt := congrArg Int32.toInt a461
          have a463 : gV τ440 22 0 16 = (gV τ363 22 0 16) := (show gV τ440 22 0 16 = (gV τ363 22 0 16) from gV_put eτ440 rfl)
          have q464 : (gV τ440 22 0 16).toInt = (gV τ363 22 0 16).toInt := congrArg Int32.toInt a463
          have v465 : CQ (gV σ 23 0 152).toInt.toNat τ440 := by
            intro q
            have q1 : gV τ440 23 0 (x355.toInt.toNat) = x366 := (show gV τ440 23 0 (x355.toInt.toNat) = x366 from gV_put eτ440 (gV_self _ _ _ _ _))
            rw [show 167 + (gV σ 23 0 152).toInt.toNat = (x355.toInt.toNat) by omega, q1]
            omega
          have v466 : (gV τ440 23 0 (167 + cc.toNat)).toInt = tV T (tE T N (tE T N (tE T N i))) := by rw [show 167 + cc.toNat = (x355.toInt.toNat) by omega, show gV τ440 23 0 (x355.toInt.toNat) = x366 from (show gV τ440 23 0 (x355.toInt.toNat) = x366 from gV_put eτ440 (gV_self _ _ _ _ _))]; omega
          exact J115 τ440 y1 i441 f442 b_y1 v443 v465 v447 v446 v445 v444 (by omega) (Or.inl ⟨by omega, by omega, by omega, by omega, by omega, by omega, trivial, v450⟩)
    · skip
      have b467 : IV (gV τ 22 0 16) 1 3 := ⟨by omega, by omega⟩
      refine m_aload_n C dX12_takePerson_87 rfl rfl ?_
      refine g_22_0 C q4_116 dX12_takePerson_88 ?_
      refine m_sipush (v := 167) C dX12_takePerson_91 (by decide) ?_
      refine m_iload_n C dX12_takePerson_94 rfl rfl ?_
      refine m_iadd C dX12_takePerson_95 ?_
      refine m_topi (fun x468 ex468 => ?_)
      have tx468 : x468.toInt = 167 + y1.toInt := by rw [ex468, ti_addv kc_167 b_y1 (by decide), kt_167]
      have b469 : IV x468 167 173 := by rw [ex468]; exact iv_add kc_167 b_y1 (by decide)
      refine m_aload_n C dX12_takePerson_96 rfl rfl ?_
      refine g_22_16 C q4_132 dX12_takePerson_97 ?_
      refine m_eqs (w := (gV τ 22 0 16)) rfl ?_
      refine m_if_ne (tgt := 113) C dX12_takePerson_100 (by decide) (fun c470 => ?_) (fun c470 => ?_)
      · have f471 : (gV τ 22 0 16).toInt ≠ 0 := by
          have q : _ := c470
          simp only [ti_nle, ti_nlt, ti_le, ti_lt, ti_eq, ti_ne, Classical.not_not, kt_0] at q
          omega
        refine m_iconst (v := 0) C dX12_takePerson_113 (by decide) ?_
        refine as_23 C b469 (by decide) rfl dX12_takePerson_114 ?_
        refine m_tops (fun τ472 eτ472 => ?_)
        have i473 : Inv τ472 := eτ472 ▸ Inv.putR0 iτ (by omega) kt_0
        have f474 : Fr MS_X12_takePersonS AS_X12_takePersonS σ τ472 := eτ472 ▸ Fr.put (fτ) (Or.inr (by decide))
        have v475 : CP (gV σ 23 0 152).toInt τ472 := v_CP.put eτ472 (Or.inr (fun q hq => by omega))
        have v476 : TpM τ472 T N := v_T.put eτ472 (Or.inl (by decide)) (by decide)
        have v477 : SFm σ τ472 := v_SM.put eτ472 (by omega)
        have v478 : PrM τ472 cc.toNat (PP T N) := v_PM.put eτ472 (by omega) (by omega)
        have v479 : (gV τ472 23 0 (153 + cc.toNat)).toInt = tQ T N (tE T N i) := (congrArg Int32.toInt (gV_putn eτ472 (Or.inr (Or.inr (by omega))))).trans v_K1
        have v480 : τ472.2.2.1 = τ.2.2.1 := by rw [eτ472]; rfl
        have a481 : gV τ472 22 0 11 = (gV τ 22 0 11) := (show gV τ472 22 0 11 = (gV τ 22 0 11) from gV_put eτ472 rfl)
        have q482 : (gV τ472 22 0 11).toInt = (gV τ 22 0 11).toInt := congrArg Int32.toInt a481
        have a483 : gV τ472 22 0 12 = (gV τ 22 0 12) := (show gV τ472 22 0 12 = (gV τ 22 0 12) from gV_put eτ472 rfl)
        have q484 : (gV τ472 22 0 12).toInt = (gV τ 22 0 12).toInt := congrArg Int32.toInt a483
        have a485 : gV τ472 22 0 16 = (gV τ 22 0 16) := (show gV τ472 22 0 16 = (gV τ 22 0 16) from gV_put eτ472 rfl)
        have q486 : (gV τ472 22 0 16).toInt = (gV τ 22 0 16).toInt := congrArg Int32.toInt a485
        have a487 : gV τ472 22 0 6 = (gV τ 22 0 6) := (show gV τ472 22 0 6 = (gV τ 22 0 6) from gV_put eτ472 rfl)
        have q488 : (gV τ472 22 0 6).toInt = (gV τ 22 0 6).toInt := congrArg Int32.toInt a487
        have a489 : gV τ472 23 0 150 = (gV τ 23 0 150) := (show gV τ472 23 0 150 = (gV τ 23 0 150) from (gV_putn eτ472 (Or.inr (Or.inr (nat_ne b469 (by decide))))).trans rfl)
        have q490 : (gV τ472 23 0 150).toInt = (gV τ 23 0 150).toInt := congrArg Int32.toInt a489
        have a491 : gV τ472 23 0 152 = (gV τ 23 0 152) := (show gV τ472 23 0 152 = (gV τ 23 0 152) from (gV_putn eτ472 (Or.inr (Or.inr (nat_ne b469 (by decide))))).trans rfl)
        have q492 : (gV τ472 23 0 152).toInt = (gV τ 23 0 152).toInt := congrArg Int32.toInt a491
        have a493 : gV τ472 23 0 188 = (gV τ 23 0 188) := (show gV τ472 23 0 188 = (gV τ 23 0 188) from (gV_putn eτ472 (Or.inr (Or.inr (nat_ne b469 (by decide))))).trans rfl)
        have q494 : (gV τ472 23 0 188).toInt = (gV τ 23 0 188).toInt := congrArg Int32.toInt a493
        have v495 : CQ (gV σ 23 0 152).toInt.toNat τ472 := by
          intro q
          have q1 : gV τ472 23 0 (x468.toInt.toNat) = 0 := (show gV τ472 23 0 (x468.toInt.toNat) = 0 from gV_put eτ472 (gV_self _ _ _ _ _))
          rw [show 167 + (gV σ 23 0 152).toInt.toNat = (x468.toInt.toNat) by omega, q1]
          omega
        exact J115 τ472 y1 i473 f474 b_y1 v475 v495 v479 v478 v477 v476 (by omega) (Or.inr (by exact ⟨by omega, by omega, by omega⟩))
      · exfalso
        have q : _ := c470
        simp only [ti_nle, ti_nlt, ti_le, ti_lt, ti_eq, ti_ne, Classical.not_not, kt_0] at q
        have q1 := b467; have q2 := kc_0; omega
  have J43 : ∀ (τ : Sg) (y1 : Int32) (z0 : Int32), Inv τ → Fr MS_X12_takePersonS AS_X12_takePersonS σ τ → IV y1 0 6 → IV z0 (-1) 5 → (CP (gV σ 23 0 152).toInt τ) → (PrM τ cc.toNat (PP T N)) → (SFm σ τ) → (TpM τ T N) → ((CuM T N (tE T N i) τ ∧ (gV τ 22 0 11).toInt ≤ (gV τ 22 0 6).toInt ∧ (gV τ 22 0 16).toInt = 0 ∧ (gV τ 23 0 150).toInt = st ∧ (gV τ 23 0 152).toInt = cc ∧ (gV τ 23 0 188).toInt = (gV σ 23 0 188).toInt ∧ cc ≤ 6 ∧ y1.toInt = cc)) → (((z0.toInt = -1 ∧ tQ T N (tE T N i) = 0) ∨ (1 ≤ z0.toInt ∧ z0.toInt ≤ 5 ∧ z0.toInt = tQ T N (tE T N i)))) → MW p l e { frames := 3, cells := 0, slots := 0, locals := 69 } s m args below meth c (MQ below (QP G (PV fun τ => Inv τ ∧ Fr MS_X12_takePersonS AS_X12_takePersonS σ τ ∧ (((perF T N st cc i ≠ 0 ∧ ((gV τ 22 0 16).toInt = perF T N st cc i ∧ 1 ≤ (gV τ 22 0 16).toInt ∧ (gV τ 22 0 16).toInt ≤ 3) ∧ ((gV τ 22 0 12).toInt = perP T N st cc i ∧ 0 ≤ (gV τ 22 0 12).toInt ∧ (gV τ 22 0 12).toInt ≤ 400) ∧ ((gV τ 23 0 152).toInt = cc ∨ (gV τ 23 0 152).toInt = cc + 1) ∧ ((gV τ 23 0 150).toInt = (gV σ 23 0 150).toInt ∧ (gV τ 23 0 188).toInt = (gV σ 23 0 188).toInt) ∧ (gV τ 22 0 11).toInt ≤ (gV τ 22 0 6).toInt) ∨ (perF T N st cc i = 0 ∧ (gV τ 22 0 16).toInt = 0 ∧ (gV τ 23 0 152).toInt = cc + 1 ∧ ((gV τ 22 0 12).toInt = (tS T (tE T N (tE T N (tE T N (tE T N (tE T N (tE T N i)))))) : Int) ∧ (tK T N (tE T N (tE T N (tE T N (tE T N (tE T N (tE T N i)))))) ≠ 4 → (gV τ 22 0 11).toInt = (tE T N (tE T N (tE T N (tE T N (tE T N (tE T N (tE T N i)))))) : Int)) ∧ (gV τ 22 0 13).toInt = (tK T N (tE T N (tE T N (tE T N (tE T N (tE T N (tE T N i)))))) + 4) % 5 ∧ 0 ≤ tK T N (tE T N (tE T N (tE T N (tE T N (tE T N (tE T N i)))))) ∧ tK T N (tE T N (tE T N (tE T N (tE T N (tE T N (tE T N i)))))) ≤ 4 ∧ (tK T N (tE T N (tE T N (tE T N (tE T N (tE T N (tE T N i)))))) = 2 → (gV τ 22 0 15).toInt = tV T (tE T N (tE T N (tE T N (tE T N (tE T N (tE T N i))))))) ∧ (gV τ 22 0 12).toInt ≤ 400) ∧ ((gV τ 23 0 150).toInt = (gV σ 23 0 150).toInt ∧ (gV τ 23 0 188).toInt = (gV σ 23 0 188).toInt) ∧ (gV τ 22 0 11).toInt ≤ (gV τ 22 0 6).toInt ∧ Pb τ ∧ LW T N (tE T N (tE T N (tE T N (tE T N (tE T N (tE T N i)))))) τ.2.2.1)) ∧ SFm σ τ ∧ ((gV τ 22 0 16).toInt = 0 → PrM τ (cc + 1).toNat (PP T N))))) args s 0 0 (aG G)) 4 G 0 0 43 [some (.ref (G.1 22 0)), some (.int y1), none, none] [.int z0] τ := by
    intro τ y1 z0 iτ fτ b_y1 b_z0 v_CP v_PM v_SM v_T nA nB
    have u497 : IV (gV τ 22 0 11) 0 400 := iτ.1 22 0 11
    have u498 : IV (gV τ 22 0 6) 0 400 := iτ.1 22 0 6
    have u499 : IV (gV τ 23 0 152) 0 7 := iτ.1 23 0 152
    have u500 : IV (gV τ 23 0 188) 0 4 := iτ.1 23 0 188
    have q501 : (gV τ 22 0 6).toInt = (N : Int) := v_T.1
    have q502 := v_T.2.1
    obtain ⟨nc_, na_, nf_, ns_, nw_, nx_, ny_, nz_⟩ := nA
    rcases nB with ⟨nq_, nr_⟩ | ⟨nq_, nr_, nt_⟩
    · have b503 : IV z0 (-1) (-1) := ⟨by omega, by omega⟩
      have b504 : IV (gV τ 22 0 16) 0 0 := ⟨by omega, by omega⟩
      refine m_istore_n (L1 := [some (.ref (G.1 22 0)), some (.int y1), some (.int z0), none]) C dX12_takePerson_43 rfl (by decide) rfl rfl ?_
      refine m_iload_n C dX12_takePerson_44 rfl rfl ?_
      refine m_if_ge (tgt := 54) C dX12_takePerson_45 (by decide) (fun c505 => ?_) (fun c505 => ?_)
      · exfalso
        have q : _ := c505
        simp only [ti_nle, ti_nlt, ti_le, ti_lt, ti_eq, ti_ne, Classical.not_not, kt_0] at q
        have q1 := b503; have q2 := kc_0; omega
      · have f507 : z0.toInt < 0 := by
          have q : _ := c505
          simp only [ti_nle, ti_nlt, ti_le, ti_lt, ti_eq, ti_ne, Classical.not_not, kt_0] at q
          omega
        have q508 : (gV τ 22 0 12).toInt = (tS T (tE T N i) : Int) ∧ (gV τ 22 0 12).toInt ≤ 400 := ⟨nc_.1.1, nc_.1.2.2.2.2.2.2⟩
        refine m_aload_n C dX12_takePerson_48 rfl rfl ?_
        refine m_iconst (v := 1) C dX12_takePerson_49 (by decide) ?_
        refine p_22_16 C q4_132 dX12_takePerson_50 ?_
        refine m_tops (fun τ509 eτ509 => ?_)
        have i510 : Inv τ509 := eτ509 ▸ Inv.putF iτ (by decide) rfl
        have f511 : Fr MS_X12_takePersonS AS_X12_takePersonS σ τ509 := eτ509 ▸ Fr.put (fτ) (Or.inl (by decide))
        have v512 : CP (gV σ 23 0 152).toInt τ509 := v_CP.put eτ509 (Or.inl (by decide))
        have v513 : TpM τ509 T N := v_T.put eτ509 (Or.inr (by decide)) (by decide)
        have v514 : SFm σ τ509 := v_SM.putO eτ509 (by decide)
        have v515 : PrM τ509 cc.toNat (PP T N) := v_PM.putO eτ509 (by decide)
        have v516 : τ509.2.2.1 = τ.2.2.1 := by rw [eτ509]; rfl
        have v517 : CuM T N (tE T N i) τ509 := CuM.put nc_ eτ509 (Or.inr (by decide))
        have a518 : gV τ509 22 0 11 = (gV τ 22 0 11) := (show gV τ509 22 0 11 = (gV τ 22 0 11) from gV_put eτ509 rfl)
        have q519 : (gV τ509 22 0 11).toInt = (gV τ 22 0 11).toInt := congrArg Int32.toInt a518
        have a520 : gV τ509 22 0 12 = (gV τ 22 0 12) := (show gV τ509 22 0 12 = (gV τ 22 0 12) from gV_put eτ509 rfl)
        have q521 : (gV τ509 22 0 12).toInt = (gV τ 22 0 12).toInt := congrArg Int32.toInt a520
        have a522 : gV τ509 22 0 6 = (gV τ 22 0 6) := (show gV τ509 22 0 6 = (gV τ 22 0 6) from gV_put eτ509 rfl)
        have q523 : (gV τ509 22 0 6).toInt = (gV τ 22 0 6).toInt := congrArg Int32.toInt a522
        have a524 : gV τ509 23 0 150 = (gV τ 23 0 150) := (show gV τ509 23 0 150 = (gV τ 23 0 150) from gV_put eτ509 rfl)
        have q525 : (gV τ509 23 0 150).toInt = (gV τ 23 0 150).toInt := congrArg Int32.toInt a524
        have a526 : gV τ509 23 0 152 = (gV τ 23 0 152) := (show gV τ509 23 0 152 = (gV τ 23 0 152) from gV_put eτ509 rfl)
        have q527 : (gV τ509 23 0 152).toInt = (gV τ 23 0 152).toInt := congrArg Int32.toInt a526
        have a528 : gV τ509 23 0 188 = (gV τ 23 0 188) := (show gV τ509 23 0 188 = (gV τ 23 0 188) from gV_put eτ509 rfl)
        have q529 : (gV τ509 23 0 188).toInt = (gV τ 23 0 188).toInt := congrArg Int32.toInt a528
        have a530 : gV τ509 22 0 16 = 1 := (show gV τ509 22 0 16 = 1 from gV_put eτ509 (gV_self _ _ _ _ _))
        have q531 : (gV τ509 22 0 16).toInt = 1 := (congrArg Int32.toInt a530).trans kt_1
        exact m_vret C hr hlk (by decide) (by decide) dX12_takePerson_53 ⟨rfl, i510, f511, ⟨(by have qd := per_1 T N st cc i (by omega) (by omega); exact Or.inl ⟨by omega, by omega, by omega, by omega, by omega, by omega⟩), v514, (fun h => absurd h (by omega))⟩⟩
    · have b532 : IV z0 1 5 := ⟨by omega, by omega⟩
      have b533 : IV (gV τ 22 0 16) 0 0 := ⟨by omega, by omega⟩
      have nk_ := tQ_k (T := T) (N := N) (i := (tE T N i)) (by omega)
      refine m_istore_n (L1 := [some (.ref (G.1 22 0)), some (.int y1), some (.int z0), none]) C dX12_takePerson_43 rfl (by decide) rfl rfl ?_
      refine m_iload_n C dX12_takePerson_44 rfl rfl ?_
      refine m_if_ge (tgt := 54) C dX12_takePerson_45 (by decide) (fun c534 => ?_) (fun c534 => ?_)
      · have f535 : 0 ≤ z0.toInt := by
          have q : _ := c534
          simp only [ti_nle, ti_nlt, ti_le, ti_lt, ti_eq, ti_ne, Classical.not_not, kt_0] at q
          omega
        refine m_aload_n C dX12_takePerson_54 rfl rfl ?_
        refine m_callV (n := 0) (ci := 11) (st := []) C (c_X12_nextE l G τ T N (tE T N (tE T N i))  iτ v_T (by have qc := nc_.1; omega)) (by decide) (by decide) rfl rfl rfl q4_231 q4_228 q4_230 q0_28 q1_7 (by decide +kernel) rfl (by decide) (by decide) rfl (Nat.le_of_ble_eq_true rfl) dX12_takePerson_55 ?_
        rintro _ τ536 ⟨rfl, i537, f538, h542⟩
        have g541 : Fr MS_X12_takePersonS AS_X12_takePersonS σ τ536 := Fr.call (fτ) f538 (by decide)
        have v543 : CP (gV σ 23 0 152).toInt τ536 := v_CP.call (fun k => f538.1 23 0 k (by simp) (by decide))
        have v544 : TpM τ536 T N := v_T.fr f538 (by decide) (by decide) (by simp) (by decide)
        have v545 : SFm σ τ536 := v_SM.fr f538 (by simp) (by decide)
        have v546 : PrM τ536 cc.toNat (PP T N) := v_PM.call (fun k => f538.1 23 0 k (by simp) (by decide))
        obtain ⟨h547, h549, v548⟩ := h542
        have v550 : CuM T N (tE T N (tE T N i)) τ536 := ⟨h547, h549⟩
        clear h547
        have u551 : IV (gV τ536 22 0 11) 0 400 := i537.1 22 0 11
        have a552 : gV τ536 22 0 16 = (gV τ 22 0 16) := (show gV τ536 22 0 16 = (gV τ 22 0 16) from (f538.1 22 0 (16) (by decide) (by decide)).trans rfl)
        have q553 : (gV τ536 22 0 16).toInt = (gV τ 22 0 16).toInt := congrArg Int32.toInt a552
        have a554 : gV τ536 22 0 6 = (gV τ 22 0 6) := (show gV τ536 22 0 6 = (gV τ 22 0 6) from (f538.1 22 0 (6) (by decide) (by decide)).trans rfl)
        have q555 : (gV τ536 22 0 6).toInt = (gV τ 22 0 6).toInt := congrArg Int32.toInt a554
        have a556 : gV τ536 23 0 150 = (gV τ 23 0 150) := (show gV τ536 23 0 150 = (gV τ 23 0 150) from (f538.1 23 0 (150) (by decide) (by decide)).trans rfl)
        have q557 : (gV τ536 23 0 150).toInt = (gV τ 23 0 150).toInt := congrArg Int32.toInt a556
        have a558 : gV τ536 23 0 152 = (gV τ 23 0 152) := (show gV τ536 23 0 152 = (gV τ 23 0 152) from (f538.1 23 0 (152) (by decide) (by decide)).trans rfl)
        have q559 : (gV τ536 23 0 152).toInt = (gV τ 23 0 152).toInt := congrArg Int32.toInt a558
        have a560 : gV τ536 23 0 188 = (gV τ 23 0 188) := (show gV τ536 23 0 188 = (gV τ 23 0 188) from (f538.1 23 0 (188) (by decide) (by decide)).trans rfl)
        have q561 : (gV τ536 23 0 188).toInt = (gV τ 23 0 188).toInt := congrArg Int32.toInt a560
        show MW p l e _ s m args below meth c _ 4 G 0 0 58 [some (.ref (G.1 22 0)), some (.int y1), some (.int z0), none] [] τ536
        refine m_aload_n C dX12_takePerson_58 rfl rfl ?_
        refine g_22_0 C q4_116 dX12_takePerson_59 ?_
        refine m_sipush (v := 153) C dX12_takePerson_62 (by decide) ?_
        refine m_iload_n C dX12_takePerson_65 rfl rfl ?_
        refine m_iadd C dX12_takePerson_66 ?_
        refine m_topi (fun x562 ex562 => ?_)
        have tx562 : x562.toInt = 153 + y1.toInt := by rw [ex562, ti_addv kc_153 b_y1 (by decide), kt_153]
        have b563 : IV x562 153 159 := by rw [ex562]; exact iv_add kc_153 b_y1 (by decide)
        refine m_iload_n C dX12_takePerson_67 rfl rfl ?_
        refine as_23 C b563 (by decide) rfl dX12_takePerson_68 ?_
        refine m_tops (fun τ564 eτ564 => ?_)
        have i565 : Inv τ564 := eτ564 ▸ Inv.putRo i537 (by omega)
        have f566 : Fr MS_X12_takePersonS AS_X12_takePersonS σ τ564 := eτ564 ▸ Fr.put (g541) (Or.inr (by decide))
        have v567 : CP (gV σ 23 0 152).toInt τ564 := v543.put eτ564 (Or.inr (fun q hq => by omega))
        have v568 : TpM τ564 T N := v544.put eτ564 (Or.inl (by decide)) (by decide)
        have v569 : SFm σ τ564 := v545.put eτ564 (by omega)
        have v570 : PrM τ564 cc.toNat (PP T N) := v546.put eτ564 (by omega) (by omega)
        have v571 : LW T N (tE T N (tE T N i)) τ564.2.2.1 := by rw [eτ564]; exact v548
        have v572 : CuM T N (tE T N (tE T N i)) τ564 := CuM.put v550 eτ564 (Or.inl (by decide))
        have a573 : gV τ564 22 0 16 = (gV τ 22 0 16) := (show gV τ564 22 0 16 = (gV τ 22 0 16) from gV_put eτ564 a552)
        have q574 : (gV τ564 22 0 16).toInt = (gV τ 22 0 16).toInt := congrArg Int32.toInt a573
        have a575 : gV τ564 22 0 6 = (gV τ 22 0 6) := (show gV τ564 22 0 6 = (gV τ 22 0 6) from gV_put eτ564 a554)
        have q576 : (gV τ564 22 0 6).toInt = (gV τ 22 0 6).toInt := congrArg Int32.toInt a575
        have a577 : gV τ564 23 0 150 = (gV τ 23 0 150) := (show gV τ564 23 0 150 = (gV τ 23 0 150) from (gV_putn eτ564 (Or.inr (Or.inr (nat_ne b563 (by decide))))).trans a556)
        have q578 : (gV τ564 23 0 150).toInt = (gV τ 23 0 150).toInt := congrArg Int32.toInt a577
        have a579 : gV τ564 23 0 152 = (gV τ 23 0 152) := (show gV τ564 23 0 152 = (gV τ 23 0 152) from (gV_putn eτ564 (Or.inr (Or.inr (nat_ne b563 (by decide))))).trans a558)
        have q580 : (gV τ564 23 0 152).toInt = (gV τ 23 0 152).toInt := congrArg Int32.toInt a579
        have a581 : gV τ564 23 0 188 = (gV τ 23 0 188) := (show gV τ564 23 0 188 = (gV τ 23 0 188) from (gV_putn eτ564 (Or.inr (Or.inr (nat_ne b563 (by decide))))).trans a560)
        have q582 : (gV τ564 23 0 188).toInt = (gV τ 23 0 188).toInt := congrArg Int32.toInt a581
        have a583 : gV τ564 22 0 11 = (gV τ536 22 0 11) := (show gV τ564 22 0 11 = (gV τ536 22 0 11) from gV_put eτ564 rfl)
        have q584 : (gV τ564 22 0 11).toInt = (gV τ536 22 0 11).toInt := congrArg Int32.toInt a583
        have a585 : gV τ564 22 0 12 = (gV τ536 22 0 12) := (show gV τ564 22 0 12 = (gV τ536 22 0 12) from gV_put eτ564 rfl)
        have q586 : (gV τ564 22 0 12).toInt = (gV τ536 22 0 12).toInt := congrArg Int32.toInt a585
        have v587 : (gV τ564 23 0 (153 + cc.toNat)).toInt = tQ T N (tE T N i) := by rw [show 153 + cc.toNat = (x562.toInt.toNat) by omega, show gV τ564 23 0 (x562.toInt.toNat) = z0 from (show gV τ564 23 0 (x562.toInt.toNat) = z0 from gV_put eτ564 (gV_self _ _ _ _ _))]; omega
        refine m_aload_n C dX12_takePerson_69 rfl rfl ?_
        refine g_22_0 C q4_116 dX12_takePerson_70 ?_
        refine m_sipush (v := 160) C dX12_takePerson_73 (by decide) ?_
        refine m_iload_n C dX12_takePerson_76 rfl rfl ?_
        refine m_iadd C dX12_takePerson_77 ?_
        refine m_topi (fun x588 ex588 => ?_)
        have tx588 : x588.toInt = 160 + y1.toInt := by rw [ex588, ti_addv kc_160 b_y1 (by decide), kt_160]
        have b589 : IV x588 160 166 := by rw [ex588]; exact iv_add kc_160 b_y1 (by decide)
        refine m_aload_n C dX12_takePerson_78 rfl rfl ?_
        refine m_iconst (v := 1) C dX12_takePerson_79 (by decide) ?_
        refine m_bipush (v := 20) C dX12_takePerson_80 (by decide) ?_
        refine m_iconst (v := 1) C dX12_takePerson_82 (by decide) ?_
        have q590 := kt_1
        have q591 := kt_20
        have q592 := kt_1
        refine m_callV (n := 3) (ci := 11) (st := [.int x588, .ref (G.1 23 0)]) C (c_X12_takeNumberE l G τ564 T N (tE T N (tE T N i)) (1) (20) (1) i565 v568 v572.1 (by omega)) (by decide) (by decide) rfl rfl rfl q5_7 q5_4 q5_6 q0_30 q1_7 (by decide +kernel) rfl (by decide) (by decide) rfl (Nat.le_of_ble_eq_true rfl) dX12_takePerson_83 ?_
        rintro _ τ593 ⟨x596, rfl, i594, f595, b597, h599⟩
        have g598 : Fr MS_X12_takePersonS AS_X12_takePersonS σ τ593 := Fr.call (f566) f595 (by decide)
        have v600 : CP (gV σ 23 0 152).toInt τ593 := v567.call (fun k => f595.1 23 0 k (by simp) (by decide))
        have v601 : TpM τ593 T N := v568.fr f595 (by decide) (by decide) (by simp) (by decide)
        have v602 : SFm σ τ593 := v569.fr f595 (by simp) (by decide)
        have v603 : PrM τ593 cc.toNat (PP T N) := v570.call (fun k => f595.1 23 0 k (by simp) (by decide))
        have v604 : (gV τ593 23 0 (153 + cc.toNat)).toInt = tQ T N (tE T N i) := (congrArg Int32.toInt (f595.1 23 0 _ (by simp) (by decide))).trans v587
        have u605 : IV (gV τ593 22 0 11) 0 400 := i594.1 22 0 11
        have a606 : gV τ593 22 0 6 = (gV τ 22 0 6) := (show gV τ593 22 0 6 = (gV τ 22 0 6) from (f595.1 22 0 (6) (by decide) (by decide)).trans a575)
        have q607 : (gV τ593 22 0 6).toInt = (gV τ 22 0 6).toInt := congrArg Int32.toInt a606
        have a608 : gV τ593 23 0 150 = (gV τ 23 0 150) := (show gV τ593 23 0 150 = (gV τ 23 0 150) from (f595.1 23 0 (150) (by decide) (by decide)).trans a577)
        have q609 : (gV τ593 23 0 150).toInt = (gV τ 23 0 150).toInt := congrArg Int32.toInt a608
        have a610 : gV τ593 23 0 152 = (gV τ 23 0 152) := (show gV τ593 23 0 152 = (gV τ 23 0 152) from (f595.1 23 0 (152) (by decide) (by decide)).trans a579)
        have q611 : (gV τ593 23 0 152).toInt = (gV τ 23 0 152).toInt := congrArg Int32.toInt a610
        have a612 : gV τ593 23 0 188 = (gV τ 23 0 188) := (show gV τ593 23 0 188 = (gV τ 23 0 188) from (f595.1 23 0 (188) (by decide) (by decide)).trans a581)
        have q613 : (gV τ593 23 0 188).toInt = (gV τ 23 0 188).toInt := congrArg Int32.toInt a612
        rcases h599 with ⟨h599_0, h599_1, h599_2, h599_3, h599_4⟩ | ⟨h599_0, h599_1, h599_2, h599_3, h599_4, h599_5, h599_6⟩ | ⟨h599_0, h599_1, h599_2, h599_3, h599_4, h599_5, h599_6⟩
        · skip
          have b614 : IV x596 (-1) (-1) := ⟨by omega, by omega⟩
          have b615 : IV (gV τ593 22 0 16) 1 1 := ⟨by omega, by omega⟩
          show MW p l e _ s m args below meth c _ 4 G 0 0 86 [some (.ref (G.1 22 0)), some (.int y1), some (.int z0), none] [.int x596, .int x588, .ref (G.1 23 0)] τ593
          refine as_23 C b589 (by decide) rfl dX12_takePerson_86 ?_
          refine m_tops (fun τ616 eτ616 => ?_)
          have i617 : Inv τ616 := eτ616 ▸ Inv.putRo i594 (by omega)
          have f618 : Fr MS_X12_takePersonS AS_X12_takePersonS σ τ616 := eτ616 ▸ Fr.put (g598) (Or.inr (by decide))
          have v619 : CP (gV σ 23 0 152).toInt τ616 := v600.put eτ616 (Or.inr (fun q hq => by omega))
          have v620 : TpM τ616 T N := v601.put eτ616 (Or.inl (by decide)) (by decide)
          have v621 : SFm σ τ616 := v602.put eτ616 (by omega)
          have v622 : PrM τ616 cc.toNat (PP T N) := v603.put eτ616 (by omega) (by omega)
          have v623 : (gV τ616 23 0 (153 + cc.toNat)).toInt = tQ T N (tE T N i) := (congrArg Int32.toInt (gV_putn eτ616 (Or.inr (Or.inr (by omega))))).trans v604
          refine m_sub (L1 := [some (.ref (G.1 22 0)), some (.int y1), none, none]) ⟨rfl, ⟨rfl, trivial⟩⟩ ?_
          have a624 : gV τ616 22 0 6 = (gV τ 22 0 6) := (show gV τ616 22 0 6 = (gV τ 22 0 6) from gV_put eτ616 a606)
          have q625 : (gV τ616 22 0 6).toInt = (gV τ 22 0 6).toInt := congrArg Int32.toInt a624
          have a626 : gV τ616 23 0 150 = (gV τ 23 0 150) := (show gV τ616 23 0 150 = (gV τ 23 0 150) from (gV_putn eτ616 (Or.inr (Or.inr (nat_ne b589 (by decide))))).trans a608)
          have q627 : (gV τ616 23 0 150).toInt = (gV τ 23 0 150).toInt := congrArg Int32.toInt a626
          have a628 : gV τ616 23 0 152 = (gV τ 23 0 152) := (show gV τ616 23 0 152 = (gV τ 23 0 152) from (gV_putn eτ616 (Or.inr (Or.inr (nat_ne b589 (by decide))))).trans a610)
          have q629 : (gV τ616 23 0 152).toInt = (gV τ 23 0 152).toInt := congrArg Int32.toInt a628
          have a630 : gV τ616 23 0 188 = (gV τ 23 0 188) := (show gV τ616 23 0 188 = (gV τ 23 0 188) from (gV_putn eτ616 (Or.inr (Or.inr (nat_ne b589 (by decide))))).trans a612)
          have q631 : (gV τ616 23 0 188).toInt = (gV τ 23 0 188).toInt := congrArg Int32.toInt a630
          have a632 : gV τ616 22 0 11 = (gV τ593 22 0 11) := (show gV τ616 22 0 11 = (gV τ593 22 0 11) from gV_put eτ616 rfl)
          have q633 : (gV τ616 22 0 11).toInt = (gV τ593 22 0 11).toInt := congrArg Int32.toInt a632
          have a634 : gV τ616 22 0 12 = (gV τ593 22 0 12) := (show gV τ616 22 0 12 = (gV τ593 22 0 12) from gV_put eτ616 rfl)
          have q635 : (gV τ616 22 0 12).toInt = (gV τ593 22 0 12).toInt := congrArg Int32.toInt a634
          have a636 : gV τ616 22 0 16 = (gV τ593 22 0 16) := (show gV τ616 22 0 16 = (gV τ593 22 0 16) from gV_put eτ616 rfl)
          have q637 : (gV τ616 22 0 16).toInt = (gV τ593 22 0 16).toInt := congrArg Int32.toInt a636
          exact J87 τ616 y1 i617 f618 b_y1 v619 v623 v622 v621 v620 (by omega) (Or.inr (by have qd := per_2 T N st cc i (by omega) (by omega) (by omega); exact ⟨by omega, by omega, by omega⟩))
        · skip
          have b638 : IV x596 (-1) (-1) := ⟨by omega, by omega⟩
          have b639 : IV (gV τ593 22 0 16) 2 2 := ⟨by omega, by omega⟩
          show MW p l e _ s m args below meth c _ 4 G 0 0 86 [some (.ref (G.1 22 0)), some (.int y1), some (.int z0), none] [.int x596, .int x588, .ref (G.1 23 0)] τ593
          refine as_23 C b589 (by decide) rfl dX12_takePerson_86 ?_
          refine m_tops (fun τ640 eτ640 => ?_)
          have i641 : Inv τ640 := eτ640 ▸ Inv.putRo i594 (by omega)
          have f642 : Fr MS_X12_takePersonS AS_X12_takePersonS σ τ640 := eτ640 ▸ Fr.put (g598) (Or.inr (by decide))
          have v643 : CP (gV σ 23 0 152).toInt τ640 := v600.put eτ640 (Or.inr (fun q hq => by omega))
          have v644 : TpM τ640 T N := v601.put eτ640 (Or.inl (by decide)) (by decide)
          have v645 : SFm σ τ640 := v602.put eτ640 (by omega)
          have v646 : PrM τ640 cc.toNat (PP T N) := v603.put eτ640 (by omega) (by omega)
          have v647 : (gV τ640 23 0 (153 + cc.toNat)).toInt = tQ T N (tE T N i) := (congrArg Int32.toInt (gV_putn eτ640 (Or.inr (Or.inr (by omega))))).trans v604
          refine m_sub (L1 := [some (.ref (G.1 22 0)), some (.int y1), none, none]) ⟨rfl, ⟨rfl, trivial⟩⟩ ?_
          have a648 : gV τ640 22 0 6 = (gV τ 22 0 6) := (show gV τ640 22 0 6 = (gV τ 22 0 6) from gV_put eτ640 a606)
          have q649 : (gV τ640 22 0 6).toInt = (gV τ 22 0 6).toInt := congrArg Int32.toInt a648
          have a650 : gV τ640 23 0 150 = (gV τ 23 0 150) := (show gV τ640 23 0 150 = (gV τ 23 0 150) from (gV_putn eτ640 (Or.inr (Or.inr (nat_ne b589 (by decide))))).trans a608)
          have q651 : (gV τ640 23 0 150).toInt = (gV τ 23 0 150).toInt := congrArg Int32.toInt a650
          have a652 : gV τ640 23 0 152 = (gV τ 23 0 152) := (show gV τ640 23 0 152 = (gV τ 23 0 152) from (gV_putn eτ640 (Or.inr (Or.inr (nat_ne b589 (by decide))))).trans a610)
          have q653 : (gV τ640 23 0 152).toInt = (gV τ 23 0 152).toInt := congrArg Int32.toInt a652
          have a654 : gV τ640 23 0 188 = (gV τ 23 0 188) := (show gV τ640 23 0 188 = (gV τ 23 0 188) from (gV_putn eτ640 (Or.inr (Or.inr (nat_ne b589 (by decide))))).trans a612)
          have q655 : (gV τ640 23 0 188).toInt = (gV τ 23 0 188).toInt := congrArg Int32.toInt a654
          have a656 : gV τ640 22 0 11 = (gV τ593 22 0 11) := (show gV τ640 22 0 11 = (gV τ593 22 0 11) from gV_put eτ640 rfl)
          have q657 : (gV τ640 22 0 11).toInt = (gV τ593 22 0 11).toInt := congrArg Int32.toInt a656
          have a658 : gV τ640 22 0 12 = (gV τ593 22 0 12) := (show gV τ640 22 0 12 = (gV τ593 22 0 12) from gV_put eτ640 rfl)
          have q659 : (gV τ640 22 0 12).toInt = (gV τ593 22 0 12).toInt := congrArg Int32.toInt a658
          have a660 : gV τ640 22 0 16 = (gV τ593 22 0 16) := (show gV τ640 22 0 16 = (gV τ593 22 0 16) from gV_put eτ640 rfl)
          have q661 : (gV τ640 22 0 16).toInt = (gV τ593 22 0 16).toInt := congrArg Int32.toInt a660
          exact J87 τ640 y1 i641 f642 b_y1 v643 v647 v646 v645 v644 (by omega) (Or.inr (by have qd := per_3 T N st cc i (by omega) (by omega) (by omega) (by omega); exact ⟨by omega, by omega, by omega⟩))
        · skip
          have q662 : 1 ≤ tV T (tE T N (tE T N i)) ∧ tV T (tE T N (tE T N i)) ≤ 20 := by omega
          clear h599_1
          have v663 : CuM T N (tE T N (tE T N (tE T N i))) τ593 := ⟨h599_4, h599_5⟩
          clear h599_4
          have b664 : IV (gV τ593 22 0 16) 0 0 := ⟨by omega, by omega⟩
          show MW p l e _ s m args below meth c _ 4 G 0 0 86 [some (.ref (G.1 22 0)), some (.int y1), some (.int z0), none] [.int x596, .int x588, .ref (G.1 23 0)] τ593
          refine as_23 C b589 (by decide) rfl dX12_takePerson_86 ?_
          refine m_tops (fun τ665 eτ665 => ?_)
          have i666 : Inv τ665 := eτ665 ▸ Inv.putRo i594 (by omega)
          have f667 : Fr MS_X12_takePersonS AS_X12_takePersonS σ τ665 := eτ665 ▸ Fr.put (g598) (Or.inr (by decide))
          have v668 : CP (gV σ 23 0 152).toInt τ665 := v600.put eτ665 (Or.inr (fun q hq => by omega))
          have v669 : TpM τ665 T N := v601.put eτ665 (Or.inl (by decide)) (by decide)
          have v670 : SFm σ τ665 := v602.put eτ665 (by omega)
          have v671 : PrM τ665 cc.toNat (PP T N) := v603.put eτ665 (by omega) (by omega)
          have v672 : (gV τ665 23 0 (153 + cc.toNat)).toInt = tQ T N (tE T N i) := (congrArg Int32.toInt (gV_putn eτ665 (Or.inr (Or.inr (by omega))))).trans v604
          have v673 : LW T N (tE T N (tE T N (tE T N i))) τ665.2.2.1 := by rw [eτ665]; exact h599_6
          have v674 : CuM T N (tE T N (tE T N (tE T N i))) τ665 := CuM.put v663 eτ665 (Or.inl (by decide))
          have a675 : gV τ665 22 0 6 = (gV τ 22 0 6) := (show gV τ665 22 0 6 = (gV τ 22 0 6) from gV_put eτ665 a606)
          have q676 : (gV τ665 22 0 6).toInt = (gV τ 22 0 6).toInt := congrArg Int32.toInt a675
          have a677 : gV τ665 23 0 150 = (gV τ 23 0 150) := (show gV τ665 23 0 150 = (gV τ 23 0 150) from (gV_putn eτ665 (Or.inr (Or.inr (nat_ne b589 (by decide))))).trans a608)
          have q678 : (gV τ665 23 0 150).toInt = (gV τ 23 0 150).toInt := congrArg Int32.toInt a677
          have a679 : gV τ665 23 0 152 = (gV τ 23 0 152) := (show gV τ665 23 0 152 = (gV τ 23 0 152) from (gV_putn eτ665 (Or.inr (Or.inr (nat_ne b589 (by decide))))).trans a610)
          have q680 : (gV τ665 23 0 152).toInt = (gV τ 23 0 152).toInt := congrArg Int32.toInt a679
          have a681 : gV τ665 23 0 188 = (gV τ 23 0 188) := (show gV τ665 23 0 188 = (gV τ 23 0 188) from (gV_putn eτ665 (Or.inr (Or.inr (nat_ne b589 (by decide))))).trans a612)
          have q682 : (gV τ665 23 0 188).toInt = (gV τ 23 0 188).toInt := congrArg Int32.toInt a681
          have a683 : gV τ665 22 0 11 = (gV τ593 22 0 11) := (show gV τ665 22 0 11 = (gV τ593 22 0 11) from gV_put eτ665 rfl)
          have q684 : (gV τ665 22 0 11).toInt = (gV τ593 22 0 11).toInt := congrArg Int32.toInt a683
          have a685 : gV τ665 22 0 12 = (gV τ593 22 0 12) := (show gV τ665 22 0 12 = (gV τ593 22 0 12) from gV_put eτ665 rfl)
          have q686 : (gV τ665 22 0 12).toInt = (gV τ593 22 0 12).toInt := congrArg Int32.toInt a685
          have a687 : gV τ665 22 0 16 = (gV τ593 22 0 16) := (show gV τ665 22 0 16 = (gV τ593 22 0 16) from gV_put eτ665 rfl)
          have q688 : (gV τ665 22 0 16).toInt = (gV τ593 22 0 16).toInt := congrArg Int32.toInt a687
          have v689 : (gV τ665 23 0 (160 + cc.toNat)).toInt = tV T (tE T N (tE T N i)) := by rw [show 160 + cc.toNat = (x588.toInt.toNat) by omega, show gV τ665 23 0 (x588.toInt.toNat) = x596 from (show gV τ665 23 0 (x588.toInt.toNat) = x596 from gV_put eτ665 (gV_self _ _ _ _ _))]; omega
          refine m_sub (L1 := [some (.ref (G.1 22 0)), some (.int y1), none, none]) ⟨rfl, ⟨rfl, trivial⟩⟩ ?_
          exact J87 τ665 y1 i666 f667 b_y1 v668 v672 v671 v670 v669 (by omega) (Or.inl ⟨by omega, by omega, by omega, by omega, trivial, v674⟩)
      · exfalso
        have q : _ := c534
        simp only [ti_nle, ti_nlt, ti_le, ti_lt, ti_eq, ti_ne, Classical.not_not, kt_0] at q
        have q1 := b532; have q2 := kc_0; omega
  have u691 : IV (gV σ 22 0 11) 0 400 := hI.1 22 0 11
  have u692 : IV (gV σ 22 0 6) 0 400 := hI.1 22 0 6
  have u693 : IV (gV σ 23 0 152) 0 7 := hI.1 23 0 152
  have u694 : IV (gV σ 23 0 188) 0 4 := hI.1 23 0 188
  have q695 : (gV σ 22 0 6).toInt = (N : Int) := hT.1
  have q696 := hT.2.1
  have b697 : IV (gV σ 22 0 16) 0 0 := ⟨by omega, by omega⟩
  refine m_aload_n C dX12_takePerson_0 rfl rfl ?_
  refine g_22_0 C q4_116 dX12_takePerson_1 ?_
  refine m_sipush (v := 152) C dX12_takePerson_4 (by decide) ?_
  refine al_23 C kc_152 (by decide) kn_152 dX12_takePerson_7 ?_
  refine m_eqs (w := (gV σ 23 0 152)) rfl ?_
  refine m_istore_n (L1 := [some (.ref (G.1 22 0)), some (.int (gV σ 23 0 152)), none, none]) C dX12_takePerson_8 rfl (by decide) rfl rfl ?_
  refine m_iload_n C dX12_takePerson_9 rfl rfl ?_
  refine m_bipush (v := 7) C dX12_takePerson_10 (by decide) ?_
  refine m_icmp_ne (tgt := 21) C dX12_takePerson_12 (by decide) (fun c698 => ?_) (fun c698 => ?_)
  · have f699 : (gV σ 23 0 152).toInt ≠ 7 := by
      have q : _ := c698
      simp only [ti_nle, ti_nlt, ti_le, ti_lt, ti_eq, ti_ne, Classical.not_not, kt_7] at q
      omega
    have b700 : IV (gV σ 23 0 152) 0 6 := ⟨by have q1 := u693; have q2 := kc_7; omega, by have q1 := u693; have q2 := kc_7; omega⟩
    refine m_aload_n C dX12_takePerson_21 rfl rfl ?_
    refine m_callV (n := 0) (ci := 11) (st := []) C (c_X12_nextE l G σ T N (tE T N i)  hI hT (by have qc := hcur.1; omega)) (by decide) (by decide) rfl rfl rfl q4_231 q4_228 q4_230 q0_28 q1_7 (by decide +kernel) rfl (by decide) (by decide) rfl (Nat.le_of_ble_eq_true rfl) dX12_takePerson_22 ?_
    rintro _ τ701 ⟨rfl, i702, f703, h707⟩
    have g706 : Fr MS_X12_takePersonS AS_X12_takePersonS σ τ701 := Fr.call (Fr.rf) f703 (by decide)
    have v708 : CP (gV σ 23 0 152).toInt τ701 := (hPb.cp hI).call (fun k => f703.1 23 0 k (by simp) (by decide))
    have v709 : TpM τ701 T N := hT.fr f703 (by decide) (by decide) (by simp) (by decide)
    have v710 : SFm σ τ701 := SFm.rf.fr f703 (by simp) (by decide)
    have v711 : PrM τ701 cc.toNat (PP T N) := hpp.2.call (fun k => f703.1 23 0 k (by simp) (by decide))
    obtain ⟨h712, h714, v713⟩ := h707
    have v715 : CuM T N (tE T N i) τ701 := ⟨h712, h714⟩
    clear h712
    have u716 : IV (gV τ701 22 0 11) 0 400 := i702.1 22 0 11
    have a717 : gV τ701 22 0 16 = (gV σ 22 0 16) := (show gV τ701 22 0 16 = (gV σ 22 0 16) from (f703.1 22 0 (16) (by decide) (by decide)).trans rfl)
    have q718 : (gV τ701 22 0 16).toInt = (gV σ 22 0 16).toInt := congrArg Int32.toInt a717
    have a719 : gV τ701 22 0 6 = (gV σ 22 0 6) := (show gV τ701 22 0 6 = (gV σ 22 0 6) from (f703.1 22 0 (6) (by decide) (by decide)).trans rfl)
    have q720 : (gV τ701 22 0 6).toInt = (gV σ 22 0 6).toInt := congrArg Int32.toInt a719
    have a721 : gV τ701 23 0 150 = (gV σ 23 0 150) := (show gV τ701 23 0 150 = (gV σ 23 0 150) from (f703.1 23 0 (150) (by decide) (by decide)).trans rfl)
    have q722 : (gV τ701 23 0 150).toInt = (gV σ 23 0 150).toInt := congrArg Int32.toInt a721
    have a723 : gV τ701 23 0 152 = (gV σ 23 0 152) := (show gV τ701 23 0 152 = (gV σ 23 0 152) from (f703.1 23 0 (152) (by decide) (by decide)).trans rfl)
    have q724 : (gV τ701 23 0 152).toInt = (gV σ 23 0 152).toInt := congrArg Int32.toInt a723
    have a725 : gV τ701 23 0 188 = (gV σ 23 0 188) := (show gV τ701 23 0 188 = (gV σ 23 0 188) from (f703.1 23 0 (188) (by decide) (by decide)).trans rfl)
    have q726 : (gV τ701 23 0 188).toInt = (gV σ 23 0 188).toInt := congrArg Int32.toInt a725
    show MW p l e _ s m args below meth c _ 4 G 0 0 25 [some (.ref (G.1 22 0)), some (.int (gV σ 23 0 152)), none, none] [] τ701
    refine m_aload_n C dX12_takePerson_25 rfl rfl ?_
    refine g_22_13 C q4_129 dX12_takePerson_26 ?_
    refine m_topi (fun x727 ex727 => ?_)
    have q728 : (x727.toInt = 0 ↔ tK T N (tE T N i) = 1) := by have qc := v715.1; rw [ex727]; omega
    have q729 : (x727.toInt = 4 ↔ tK T N (tE T N i) = 0) := by have qc := v715.1; rw [ex727]; omega
    refine m_if_ne (tgt := 42) C dX12_takePerson_29 (by decide) (fun c730 => ?_) (fun c730 => ?_)
    · have f731 : x727.toInt ≠ 0 := by
        have q : _ := c730
        simp only [ti_nle, ti_nlt, ti_le, ti_lt, ti_eq, ti_ne, Classical.not_not, kt_0] at q
        omega
      have q732 : tQ T N (tE T N i) = 0 := by have qd := tQ_def T N (tE T N i); omega
      refine m_iconst (v := (-1)) C dX12_takePerson_42 (by decide) ?_
      exact J43 τ701 (gV σ 23 0 152) (-1) i702 g706 b700 (iv_wk kc_m1 (by decide)) v708 v711 v710 v709 ⟨v715, by omega, by omega, by omega, by omega, by omega, by omega, by omega⟩ (by have q := kt_m1; omega)
    · have f733 : x727.toInt = 0 := by
        have q : _ := c730
        simp only [ti_nle, ti_nlt, ti_le, ti_lt, ti_eq, ti_ne, Classical.not_not, kt_0] at q
        omega
      have b734 : IV x727 0 0 := ⟨by have q1 := (iv_any x727); have q2 := kc_0; omega, by have q1 := (iv_any x727); have q2 := kc_0; omega⟩
      refine m_aload_n C dX12_takePerson_32 rfl rfl ?_
      refine g_22_14 C q4_130 dX12_takePerson_33 ?_
      refine m_topl (fun w735 ew735 => ?_)
      have q736 : tK T N (tE T N i) = 1 := by omega
      have q737 : (w735.toInt = 17494690093 ↔ tW T N (tE T N i) 2 = 1) := by rw [ew735]; exact LW.at2 v713 q736
      have q738 : (w735.toInt = 24416759 ↔ tW T N (tE T N i) 3 = 1) := by rw [ew735]; exact LW.at3 v713 q736
      have q739 : (w735.toInt = 2553 ↔ tW T N (tE T N i) 4 = 1) := by rw [ew735]; exact LW.at4 v713 q736
      have q740 : (w735.toInt = 441803 ↔ tW T N (tE T N i) 5 = 1) := by rw [ew735]; exact LW.at5 v713 q736
      have q741 : (w735.toInt = 77177328 ↔ tW T N (tE T N i) 6 = 1) := by rw [ew735]; exact LW.at6 v713 q736
      refine m_callS (n := 1) (st := []) C (c_X12_sortOfE l G τ701 (w735) i702 ) q5_23 q5_21 q5_22 q1_7 (by decide +kernel) rfl (by decide) (by decide) rfl (Nat.le_of_ble_eq_true rfl) dX12_takePerson_36 ?_
      rintro _ τ742 ⟨x745, rfl, i743, f744, b746, h748⟩
      have g747 : Fr MS_X12_takePersonS AS_X12_takePersonS σ τ742 := Fr.call (g706) f744 (by decide)
      have v749 : CP (gV σ 23 0 152).toInt τ742 := v708.call (fun k => f744.1 23 0 k (by simp) (by decide))
      have v750 : TpM τ742 T N := v709.fr f744 (by decide) (by decide) (by simp) (by decide)
      have v751 : SFm σ τ742 := v710.fr f744 (by simp) (by decide)
      have v752 : PrM τ742 cc.toNat (PP T N) := v711.call (fun k => f744.1 23 0 k (by simp) (by decide))
      have v753 : CuM T N (tE T N i) τ742 := CuM.fr v715 f744 (by decide) (by decide)
      have a754 : gV τ742 22 0 16 = (gV σ 22 0 16) := (show gV τ742 22 0 16 = (gV σ 22 0 16) from (f744.1 22 0 (16) (by decide) (by decide)).trans a717)
      have q755 : (gV τ742 22 0 16).toInt = (gV σ 22 0 16).toInt := congrArg Int32.toInt a754
      have a756 : gV τ742 22 0 6 = (gV σ 22 0 6) := (show gV τ742 22 0 6 = (gV σ 22 0 6) from (f744.1 22 0 (6) (by decide) (by decide)).trans a719)
      have q757 : (gV τ742 22 0 6).toInt = (gV σ 22 0 6).toInt := congrArg Int32.toInt a756
      have a758 : gV τ742 23 0 150 = (gV σ 23 0 150) := (show gV τ742 23 0 150 = (gV σ 23 0 150) from (f744.1 23 0 (150) (by decide) (by decide)).trans a721)
      have q759 : (gV τ742 23 0 150).toInt = (gV σ 23 0 150).toInt := congrArg Int32.toInt a758
      have a760 : gV τ742 23 0 152 = (gV σ 23 0 152) := (show gV τ742 23 0 152 = (gV σ 23 0 152) from (f744.1 23 0 (152) (by decide) (by decide)).trans a723)
      have q761 : (gV τ742 23 0 152).toInt = (gV σ 23 0 152).toInt := congrArg Int32.toInt a760
      have a762 : gV τ742 23 0 188 = (gV σ 23 0 188) := (show gV τ742 23 0 188 = (gV σ 23 0 188) from (f744.1 23 0 (188) (by decide) (by decide)).trans a725)
      have q763 : (gV τ742 23 0 188).toInt = (gV σ 23 0 188).toInt := congrArg Int32.toInt a762
      have a764 : gV τ742 22 0 11 = (gV τ701 22 0 11) := (show gV τ742 22 0 11 = (gV τ701 22 0 11) from (f744.1 22 0 (11) (by decide) (by decide)).trans rfl)
      have q765 : (gV τ742 22 0 11).toInt = (gV τ701 22 0 11).toInt := congrArg Int32.toInt a764
      have a766 : gV τ742 22 0 12 = (gV τ701 22 0 12) := (show gV τ742 22 0 12 = (gV τ701 22 0 12) from (f744.1 22 0 (12) (by decide) (by decide)).trans rfl)
      have q767 : (gV τ742 22 0 12).toInt = (gV τ701 22 0 12).toInt := congrArg Int32.toInt a766
      rcases h748 with ⟨h748_0, h748_1⟩ | ⟨h748_0, h748_1⟩ | ⟨h748_0, h748_1⟩ | ⟨h748_0, h748_1⟩ | ⟨h748_0, h748_1⟩ | ⟨h748_0, h748_1, h748_2, h748_3, h748_4, h748_5⟩
      · skip
        have b768 : IV x745 1 1 := ⟨by omega, by omega⟩
        have a769 : tW T N (tE T N i) 2 = 1 := q737.mp h748_1
        have a770 : ¬ tW T N (tE T N i) 3 = 1 := fun h => by have h2 := q738.mpr h; rw [h748_1] at h2; exact absurd h2 (by decide)
        have a771 : ¬ tW T N (tE T N i) 4 = 1 := fun h => by have h2 := q739.mpr h; rw [h748_1] at h2; exact absurd h2 (by decide)
        have a772 : ¬ tW T N (tE T N i) 5 = 1 := fun h => by have h2 := q740.mpr h; rw [h748_1] at h2; exact absurd h2 (by decide)
        have a773 : ¬ tW T N (tE T N i) 6 = 1 := fun h => by have h2 := q741.mpr h; rw [h748_1] at h2; exact absurd h2 (by decide)
        have q774 : tQ T N (tE T N i) = 1 := tQ_a1 q736 a769
        clear a769 a770 a771 a772 a773 q737 q738 q739 q740 q741
        show MW p l e _ s m args below meth c _ 4 G 0 0 39 [some (.ref (G.1 22 0)), some (.int (gV σ 23 0 152)), none, none] [.int x745] τ742
        refine m_goto (tgt := 43) C dX12_takePerson_39 (by decide) ?_
        exact J43 τ742 (gV σ 23 0 152) x745 i743 g747 b700 (iv_wk b768 (by decide)) v749 v752 v751 v750 ⟨v753, by omega, by omega, by omega, by omega, by omega, by omega, by omega⟩ (by omega)
      · skip
        have b775 : IV x745 4 4 := ⟨by omega, by omega⟩
        have a776 : ¬ tW T N (tE T N i) 2 = 1 := fun h => by have h2 := q737.mpr h; rw [h748_1] at h2; exact absurd h2 (by decide)
        have a777 : ¬ tW T N (tE T N i) 3 = 1 := fun h => by have h2 := q738.mpr h; rw [h748_1] at h2; exact absurd h2 (by decide)
        have a778 : ¬ tW T N (tE T N i) 4 = 1 := fun h => by have h2 := q739.mpr h; rw [h748_1] at h2; exact absurd h2 (by decide)
        have a779 : tW T N (tE T N i) 5 = 1 := q740.mp h748_1
        have a780 : ¬ tW T N (tE T N i) 6 = 1 := fun h => by have h2 := q741.mpr h; rw [h748_1] at h2; exact absurd h2 (by decide)
        have q781 : tQ T N (tE T N i) = 4 := tQ_a4 q736 a776 a777 a778 a779
        clear a776 a777 a778 a779 a780 q737 q738 q739 q740 q741
        show MW p l e _ s m args below meth c _ 4 G 0 0 39 [some (.ref (G.1 22 0)), some (.int (gV σ 23 0 152)), none, none] [.int x745] τ742
        refine m_goto (tgt := 43) C dX12_takePerson_39 (by decide) ?_
        exact J43 τ742 (gV σ 23 0 152) x745 i743 g747 b700 (iv_wk b775 (by decide)) v749 v752 v751 v750 ⟨v753, by omega, by omega, by omega, by omega, by omega, by omega, by omega⟩ (by omega)
      · skip
        have b782 : IV x745 2 2 := ⟨by omega, by omega⟩
        have a783 : ¬ tW T N (tE T N i) 2 = 1 := fun h => by have h2 := q737.mpr h; rw [h748_1] at h2; exact absurd h2 (by decide)
        have a784 : tW T N (tE T N i) 3 = 1 := q738.mp h748_1
        have a785 : ¬ tW T N (tE T N i) 4 = 1 := fun h => by have h2 := q739.mpr h; rw [h748_1] at h2; exact absurd h2 (by decide)
        have a786 : ¬ tW T N (tE T N i) 5 = 1 := fun h => by have h2 := q740.mpr h; rw [h748_1] at h2; exact absurd h2 (by decide)
        have a787 : ¬ tW T N (tE T N i) 6 = 1 := fun h => by have h2 := q741.mpr h; rw [h748_1] at h2; exact absurd h2 (by decide)
        have q788 : tQ T N (tE T N i) = 2 := tQ_a2 q736 a783 a784
        clear a783 a784 a785 a786 a787 q737 q738 q739 q740 q741
        show MW p l e _ s m args below meth c _ 4 G 0 0 39 [some (.ref (G.1 22 0)), some (.int (gV σ 23 0 152)), none, none] [.int x745] τ742
        refine m_goto (tgt := 43) C dX12_takePerson_39 (by decide) ?_
        exact J43 τ742 (gV σ 23 0 152) x745 i743 g747 b700 (iv_wk b782 (by decide)) v749 v752 v751 v750 ⟨v753, by omega, by omega, by omega, by omega, by omega, by omega, by omega⟩ (by omega)
      · skip
        have b789 : IV x745 5 5 := ⟨by omega, by omega⟩
        have a790 : ¬ tW T N (tE T N i) 2 = 1 := fun h => by have h2 := q737.mpr h; rw [h748_1] at h2; exact absurd h2 (by decide)
        have a791 : ¬ tW T N (tE T N i) 3 = 1 := fun h => by have h2 := q738.mpr h; rw [h748_1] at h2; exact absurd h2 (by decide)
        have a792 : ¬ tW T N (tE T N i) 4 = 1 := fun h => by have h2 := q739.mpr h; rw [h748_1] at h2; exact absurd h2 (by decide)
        have a793 : ¬ tW T N (tE T N i) 5 = 1 := fun h => by have h2 := q740.mpr h; rw [h748_1] at h2; exact absurd h2 (by decide)
        have a794 : tW T N (tE T N i) 6 = 1 := q741.mp h748_1
        have q795 : tQ T N (tE T N i) = 5 := tQ_a5 q736 a790 a791 a792 a793 a794
        clear a790 a791 a792 a793 a794 q737 q738 q739 q740 q741
        show MW p l e _ s m args below meth c _ 4 G 0 0 39 [some (.ref (G.1 22 0)), some (.int (gV σ 23 0 152)), none, none] [.int x745] τ742
        refine m_goto (tgt := 43) C dX12_takePerson_39 (by decide) ?_
        exact J43 τ742 (gV σ 23 0 152) x745 i743 g747 b700 (iv_wk b789 (by decide)) v749 v752 v751 v750 ⟨v753, by omega, by omega, by omega, by omega, by omega, by omega, by omega⟩ (by omega)
      · skip
        have b796 : IV x745 3 3 := ⟨by omega, by omega⟩
        have a797 : ¬ tW T N (tE T N i) 2 = 1 := fun h => by have h2 := q737.mpr h; rw [h748_1] at h2; exact absurd h2 (by decide)
        have a798 : ¬ tW T N (tE T N i) 3 = 1 := fun h => by have h2 := q738.mpr h; rw [h748_1] at h2; exact absurd h2 (by decide)
        have a799 : tW T N (tE T N i) 4 = 1 := q739.mp h748_1
        have a800 : ¬ tW T N (tE T N i) 5 = 1 := fun h => by have h2 := q740.mpr h; rw [h748_1] at h2; exact absurd h2 (by decide)
        have a801 : ¬ tW T N (tE T N i) 6 = 1 := fun h => by have h2 := q741.mpr h; rw [h748_1] at h2; exact absurd h2 (by decide)
        have q802 : tQ T N (tE T N i) = 3 := tQ_a3 q736 a797 a798 a799
        clear a797 a798 a799 a800 a801 q737 q738 q739 q740 q741
        show MW p l e _ s m args below meth c _ 4 G 0 0 39 [some (.ref (G.1 22 0)), some (.int (gV σ 23 0 152)), none, none] [.int x745] τ742
        refine m_goto (tgt := 43) C dX12_takePerson_39 (by decide) ?_
        exact J43 τ742 (gV σ 23 0 152) x745 i743 g747 b700 (iv_wk b796 (by decide)) v749 v752 v751 v750 ⟨v753, by omega, by omega, by omega, by omega, by omega, by omega, by omega⟩ (by omega)
      · skip
        have b803 : IV x745 (-1) (-1) := ⟨by omega, by omega⟩
        have a804 : ¬ tW T N (tE T N i) 2 = 1 := fun h => h748_1 (q737.mpr h)
        have a805 : ¬ tW T N (tE T N i) 3 = 1 := fun h => h748_3 (q738.mpr h)
        have a806 : ¬ tW T N (tE T N i) 4 = 1 := fun h => h748_5 (q739.mpr h)
        have a807 : ¬ tW T N (tE T N i) 5 = 1 := fun h => h748_2 (q740.mpr h)
        have a808 : ¬ tW T N (tE T N i) 6 = 1 := fun h => h748_4 (q741.mpr h)
        have q809 : tQ T N (tE T N i) = 0 := tQ_a0 q736 a804 a805 a806 a807 a808
        clear a804 a805 a806 a807 a808 q737 q738 q739 q740 q741
        show MW p l e _ s m args below meth c _ 4 G 0 0 39 [some (.ref (G.1 22 0)), some (.int (gV σ 23 0 152)), none, none] [.int x745] τ742
        refine m_goto (tgt := 43) C dX12_takePerson_39 (by decide) ?_
        exact J43 τ742 (gV σ 23 0 152) x745 i743 g747 b700 (iv_wk b803 (by decide)) v749 v752 v751 v750 ⟨v753, by omega, by omega, by omega, by omega, by omega, by omega, by omega⟩ (by omega)
  · have f810 : (gV σ 23 0 152).toInt = 7 := by
      have q : _ := c698
      simp only [ti_nle, ti_nlt, ti_le, ti_lt, ti_eq, ti_ne, Classical.not_not, kt_7] at q
      omega
    have b811 : IV (gV σ 23 0 152) 7 7 := ⟨by have q1 := u693; have q2 := kc_7; omega, by have q1 := u693; have q2 := kc_7; omega⟩
    have q812 : (gV σ 22 0 12).toInt = (tS T i : Int) ∧ (gV σ 22 0 12).toInt ≤ 400 := ⟨hcur.1.1, hcur.1.2.2.2.2.2.2⟩
    refine m_aload_n C dX12_takePerson_15 rfl rfl ?_
    refine m_iconst (v := 3) C dX12_takePerson_16 (by decide) ?_
    refine p_22_16 C q4_132 dX12_takePerson_17 ?_
    refine m_tops (fun τ813 eτ813 => ?_)
    have i814 : Inv τ813 := eτ813 ▸ Inv.putF hI (by decide) rfl
    have f815 : Fr MS_X12_takePersonS AS_X12_takePersonS σ τ813 := eτ813 ▸ Fr.put (Fr.rf) (Or.inl (by decide))
    have v816 : CP (gV σ 23 0 152).toInt τ813 := (hPb.cp hI).put eτ813 (Or.inl (by decide))
    have v817 : TpM τ813 T N := hT.put eτ813 (Or.inr (by decide)) (by decide)
    have v818 : SFm σ τ813 := SFm.rf.putO eτ813 (by decide)
    have v819 : PrM τ813 cc.toNat (PP T N) := hpp.2.putO eτ813 (by decide)
    have v820 : τ813.2.2.1 = σ.2.2.1 := by rw [eτ813]; rfl
    have v821 : CuM T N i τ813 := CuM.put hcur eτ813 (Or.inr (by decide))
    have a822 : gV τ813 22 0 11 = (gV σ 22 0 11) := (show gV τ813 22 0 11 = (gV σ 22 0 11) from gV_put eτ813 rfl)
    have q823 : (gV τ813 22 0 11).toInt = (gV σ 22 0 11).toInt := congrArg Int32.toInt a822
    have a824 : gV τ813 22 0 12 = (gV σ 22 0 12) := (show gV τ813 22 0 12 = (gV σ 22 0 12) from gV_put eτ813 rfl)
    have q825 : (gV τ813 22 0 12).toInt = (gV σ 22 0 12).toInt := congrArg Int32.toInt a824
    have a826 : gV τ813 22 0 6 = (gV σ 22 0 6) := (show gV τ813 22 0 6 = (gV σ 22 0 6) from gV_put eτ813 rfl)
    have q827 : (gV τ813 22 0 6).toInt = (gV σ 22 0 6).toInt := congrArg Int32.toInt a826
    have a828 : gV τ813 23 0 150 = (gV σ 23 0 150) := (show gV τ813 23 0 150 = (gV σ 23 0 150) from gV_put eτ813 rfl)
    have q829 : (gV τ813 23 0 150).toInt = (gV σ 23 0 150).toInt := congrArg Int32.toInt a828
    have a830 : gV τ813 23 0 152 = (gV σ 23 0 152) := (show gV τ813 23 0 152 = (gV σ 23 0 152) from gV_put eτ813 rfl)
    have q831 : (gV τ813 23 0 152).toInt = (gV σ 23 0 152).toInt := congrArg Int32.toInt a830
    have a832 : gV τ813 23 0 188 = (gV σ 23 0 188) := (show gV τ813 23 0 188 = (gV σ 23 0 188) from gV_put eτ813 rfl)
    have q833 : (gV τ813 23 0 188).toInt = (gV σ 23 0 188).toInt := congrArg Int32.toInt a832
    have a834 : gV τ813 22 0 16 = 3 := (show gV τ813 22 0 16 = 3 from gV_put eτ813 (gV_self _ _ _ _ _))
    have q835 : (gV τ813 22 0 16).toInt = 3 := (congrArg Int32.toInt a834).trans kt_3
    exact m_vret C hr hlk (by decide) (by decide) dX12_takePerson_20 ⟨rfl, i814, f815, ⟨(by have qd := per_0 T N st cc i (by omega); exact Or.inl ⟨by omega, by omega, by omega, by omega, by omega, by omega⟩), v818, (fun h => absurd h (by omega))⟩⟩
