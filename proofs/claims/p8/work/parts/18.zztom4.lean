abbrev MS_X12_takePersonE : List (Nat × Nat) := [(22, 11), (22, 12), (22, 13), (22, 15), (22, 16)]
abbrev AS_X12_takePersonE : List Nat := [23]
set_option maxHeartbeats 4000000 in
set_option maxRecDepth 100000 in
theorem c_X12_takePersonE (l : Launch) (G : Gt) (σ : Sg) (T : Nat → Int) (N : Nat) (i : Nat) (st : Int) (cc : Int) (hI : Inv σ) (hT : TpM σ T N) (hcur : CuM T N i σ) (hat : (gV σ 22 0 11).toInt ≤ (gV σ 22 0 6).toInt) (htk : tK T N i = 1) (hf0 : (gV σ 22 0 16).toInt = 0) (hPb : Pb σ) (hst : ((gV σ 23 0 150).toInt = st ∧ 4 ≤ st ∧ st ≤ 32 ∧ (gV σ 23 0 152).toInt = cc)) : Mc l G yX12_takePerson cX12_takePerson 4 none 3 69 0 0 [.ref (G.1 22 0)] σ (PV fun τ => Inv τ ∧ Fr MS_X12_takePersonE AS_X12_takePersonE σ τ ∧ ((perF T N st cc i ≠ 0 ∧ ((gV τ 22 0 16).toInt = perF T N st cc i ∧ 1 ≤ (gV τ 22 0 16).toInt ∧ (gV τ 22 0 16).toInt ≤ 3) ∧ ((gV τ 22 0 12).toInt = perP T N st cc i ∧ 0 ≤ (gV τ 22 0 12).toInt ∧ (gV τ 22 0 12).toInt ≤ 400) ∧ ((gV τ 23 0 152).toInt = cc ∨ (gV τ 23 0 152).toInt = cc + 1) ∧ ((gV τ 23 0 150).toInt = (gV σ 23 0 150).toInt ∧ (gV τ 23 0 188).toInt = (gV σ 23 0 188).toInt) ∧ (gV τ 22 0 11).toInt ≤ (gV τ 22 0 6).toInt) ∨ (perF T N st cc i = 0 ∧ (gV τ 22 0 16).toInt = 0 ∧ (gV τ 23 0 152).toInt = cc + 1 ∧ ((gV τ 22 0 12).toInt = (tS T (tE T N (tE T N (tE T N (tE T N (tE T N (tE T N i)))))) : Int) ∧ (tK T N (tE T N (tE T N (tE T N (tE T N (tE T N (tE T N i)))))) ≠ 4 → (gV τ 22 0 11).toInt = (tE T N (tE T N (tE T N (tE T N (tE T N (tE T N (tE T N i)))))) : Int)) ∧ (gV τ 22 0 13).toInt = (tK T N (tE T N (tE T N (tE T N (tE T N (tE T N (tE T N i)))))) + 4) % 5 ∧ 0 ≤ tK T N (tE T N (tE T N (tE T N (tE T N (tE T N (tE T N i)))))) ∧ tK T N (tE T N (tE T N (tE T N (tE T N (tE T N (tE T N i)))))) ≤ 4 ∧ (tK T N (tE T N (tE T N (tE T N (tE T N (tE T N (tE T N i)))))) = 2 → (gV τ 22 0 15).toInt = tV T (tE T N (tE T N (tE T N (tE T N (tE T N (tE T N i))))))) ∧ (gV τ 22 0 12).toInt ≤ 400) ∧ ((gV τ 23 0 150).toInt = (gV σ 23 0 150).toInt ∧ (gV τ 23 0 188).toInt = (gV σ 23 0 188).toInt) ∧ (gV τ 22 0 11).toInt ≤ (gV τ 22 0 6).toInt ∧ Pb τ ∧ LW T N (tE T N (tE T N (tE T N (tE T N (tE T N (tE T N i)))))) τ.2.2.1))) := by
  refine Mc.of (L0 := [some (.ref (G.1 22 0)), none, none, none]) (by decide) (Nat.le_of_ble_eq_true rfl) rfl ?_
  intro p e s m args below meth c C hr hlk
  have C : Cx p s m args c cX12_takePerson 4 "LeanTowerModel" := C
  have k0 : (0 : Int32).toInt = 0 := by decide
  have k1 : (1 : Int32).toInt = 1 := by decide
  have J165 : ∀ (τ : Sg) (y1 : Int32), Inv τ → Fr MS_X12_takePersonE AS_X12_takePersonE σ τ → IV y1 0 6 → (CP (gV σ 23 0 152).toInt τ) → (CQ (gV σ 23 0 152).toInt.toNat τ) → (TpM τ T N) → (((gV τ 22 0 11).toInt ≤ (gV τ 22 0 6).toInt ∧ (gV τ 23 0 150).toInt = st ∧ (gV τ 23 0 152).toInt = cc ∧ (gV τ 23 0 188).toInt = (gV σ 23 0 188).toInt ∧ cc ≤ 6 ∧ y1.toInt = cc)) → ((((gV τ 22 0 16).toInt = 0 ∧ tQ T N (tE T N i) ≠ 0 ∧ (tK T N (tE T N (tE T N i)) = 2 ∧ 1 ≤ tV T (tE T N (tE T N i)) ∧ tV T (tE T N (tE T N i)) ≤ 20) ∧ (tK T N (tE T N (tE T N (tE T N i))) = 2 ∧ 1 ≤ tV T (tE T N (tE T N (tE T N i))) ∧ tV T (tE T N (tE T N (tE T N i))) ≤ 4) ∧ (tK T N (tE T N (tE T N (tE T N (tE T N i)))) = 2 ∧ (tV T (tE T N (tE T N (tE T N (tE T N i)))) = 99 ∨ (0 ≤ tV T (tE T N (tE T N (tE T N (tE T N i)))) ∧ tV T (tE T N (tE T N (tE T N (tE T N i)))) ≤ st - 1))) ∧ True ∧ CuM T N (tE T N (tE T N (tE T N (tE T N (tE T N i))))) τ) ∨ ((1 ≤ (gV τ 22 0 16).toInt ∧ (gV τ 22 0 16).toInt ≤ 3) ∧ perF T N st cc i = (gV τ 22 0 16).toInt ∧ ((gV τ 22 0 12).toInt = perP T N st cc i ∧ 0 ≤ (gV τ 22 0 12).toInt ∧ (gV τ 22 0 12).toInt ≤ 400)))) → MW p l e { frames := 3, cells := 0, slots := 0, locals := 69 } s m args below meth c (MQ below (QP G (PV fun τ => Inv τ ∧ Fr MS_X12_takePersonE AS_X12_takePersonE σ τ ∧ ((perF T N st cc i ≠ 0 ∧ ((gV τ 22 0 16).toInt = perF T N st cc i ∧ 1 ≤ (gV τ 22 0 16).toInt ∧ (gV τ 22 0 16).toInt ≤ 3) ∧ ((gV τ 22 0 12).toInt = perP T N st cc i ∧ 0 ≤ (gV τ 22 0 12).toInt ∧ (gV τ 22 0 12).toInt ≤ 400) ∧ ((gV τ 23 0 152).toInt = cc ∨ (gV τ 23 0 152).toInt = cc + 1) ∧ ((gV τ 23 0 150).toInt = (gV σ 23 0 150).toInt ∧ (gV τ 23 0 188).toInt = (gV σ 23 0 188).toInt) ∧ (gV τ 22 0 11).toInt ≤ (gV τ 22 0 6).toInt) ∨ (perF T N st cc i = 0 ∧ (gV τ 22 0 16).toInt = 0 ∧ (gV τ 23 0 152).toInt = cc + 1 ∧ ((gV τ 22 0 12).toInt = (tS T (tE T N (tE T N (tE T N (tE T N (tE T N (tE T N i)))))) : Int) ∧ (tK T N (tE T N (tE T N (tE T N (tE T N (tE T N (tE T N i)))))) ≠ 4 → (gV τ 22 0 11).toInt = (tE T N (tE T N (tE T N (tE T N (tE T N (tE T N (tE T N i)))))) : Int)) ∧ (gV τ 22 0 13).toInt = (tK T N (tE T N (tE T N (tE T N (tE T N (tE T N (tE T N i)))))) + 4) % 5 ∧ 0 ≤ tK T N (tE T N (tE T N (tE T N (tE T N (tE T N (tE T N i)))))) ∧ tK T N (tE T N (tE T N (tE T N (tE T N (tE T N (tE T N i)))))) ≤ 4 ∧ (tK T N (tE T N (tE T N (tE T N (tE T N (tE T N (tE T N i)))))) = 2 → (gV τ 22 0 15).toInt = tV T (tE T N (tE T N (tE T N (tE T N (tE T N (tE T N i))))))) ∧ (gV τ 22 0 12).toInt ≤ 400) ∧ ((gV τ 23 0 150).toInt = (gV σ 23 0 150).toInt ∧ (gV τ 23 0 188).toInt = (gV σ 23 0 188).toInt) ∧ (gV τ 22 0 11).toInt ≤ (gV τ 22 0 6).toInt ∧ Pb τ ∧ LW T N (tE T N (tE T N (tE T N (tE T N (tE T N (tE T N i)))))) τ.2.2.1)))) args s 0 0 (aG G)) 4 G 0 0 165 [some (.ref (G.1 22 0)), some (.int y1), none, none] [] τ := by
    intro τ y1 iτ fτ b_y1 v_CP v_CQ v_T n1 nR
    have u2 : IV (gV τ 22 0 11) 0 400 := iτ.1 22 0 11
    have u3 : IV (gV τ 22 0 6) 0 400 := iτ.1 22 0 6
    have u4 : IV (gV τ 23 0 152) 0 7 := iτ.1 23 0 152
    have u5 : IV (gV τ 23 0 188) 0 4 := iτ.1 23 0 188
    have q6 : (gV τ 22 0 6).toInt = (N : Int) := v_T.1
    have q7 := v_T.2.1
    rcases nR with ⟨n0_, n1_, n2_, n3_, n4_, nT_, nc_⟩ | ⟨n0_, n1_, n2_⟩
    · skip
      have b8 : IV (gV τ 22 0 16) 0 0 := ⟨by omega, by omega⟩
      refine m_aload_n C dX12_takePerson_165 rfl rfl ?_
      refine g_22_0 C q4_116 dX12_takePerson_166 ?_
      refine m_sipush (v := 181) C dX12_takePerson_169 (by decide) ?_
      refine m_iload_n C dX12_takePerson_172 rfl rfl ?_
      refine m_iadd C dX12_takePerson_173 ?_
      refine m_topi (fun x9 ex9 => ?_)
      have tx9 : x9.toInt = 181 + y1.toInt := by rw [ex9, ti_addv kc_181 b_y1 (by decide), kt_181]
      have b10 : IV x9 181 187 := by rw [ex9]; exact iv_add kc_181 b_y1 (by decide)
      refine m_iconst (v := 0) C dX12_takePerson_174 (by decide) ?_
      refine as_23 C b10 (by decide) rfl dX12_takePerson_175 ?_
      refine m_tops (fun τ11 eτ11 => ?_)
      have i12 : Inv τ11 := eτ11 ▸ Inv.putR0 iτ (by omega) kt_0
      have f13 : Fr MS_X12_takePersonE AS_X12_takePersonE σ τ11 := eτ11 ▸ Fr.put (fτ) (Or.inr (by decide))
      have v14 : CP (gV σ 23 0 152).toInt τ11 := v_CP.put eτ11 (Or.inr (fun q hq => by omega))
      have v15 : TpM τ11 T N := v_T.put eτ11 (Or.inl (by decide)) (by decide)
      have v16 : CQ (gV σ 23 0 152).toInt.toNat τ11 := v_CQ.put eτ11 (Or.inl (by decide)) (Or.inr (by omega))
      have v17 : τ11.2.2.1 = τ.2.2.1 := by rw [eτ11]; rfl
      have v18 : CuM T N (tE T N (tE T N (tE T N (tE T N (tE T N i))))) τ11 := CuM.put nc_ eτ11 (Or.inl (by decide))
      refine m_aload_n C dX12_takePerson_176 rfl rfl ?_
      refine g_22_0 C q4_116 dX12_takePerson_177 ?_
      refine m_sipush (v := 152) C dX12_takePerson_180 (by decide) ?_
      refine m_dup2 C dX12_takePerson_183 rfl rfl ?_
      refine al_23 C kc_152 (by decide) kn_152 dX12_takePerson_184 ?_
      refine m_eqs (w := (gV τ 23 0 152)) (show gV τ11 23 0 152 = (gV τ 23 0 152) from (gV_putn eτ11 (Or.inr (Or.inr (nat_ne b10 (by decide))))).trans rfl) ?_
      refine m_iconst (v := 1) C dX12_takePerson_185 (by decide) ?_
      have a19 : gV τ11 22 0 11 = (gV τ 22 0 11) := (show gV τ11 22 0 11 = (gV τ 22 0 11) from gV_put eτ11 rfl)
      have q20 : (gV τ11 22 0 11).toInt = (gV τ 22 0 11).toInt := congrArg Int32.toInt a19
      have a21 : gV τ11 22 0 12 = (gV τ 22 0 12) := (show gV τ11 22 0 12 = (gV τ 22 0 12) from gV_put eτ11 rfl)
      have q22 : (gV τ11 22 0 12).toInt = (gV τ 22 0 12).toInt := congrArg Int32.toInt a21
      have a23 : gV τ11 22 0 16 = (gV τ 22 0 16) := (show gV τ11 22 0 16 = (gV τ 22 0 16) from gV_put eτ11 rfl)
      have q24 : (gV τ11 22 0 16).toInt = (gV τ 22 0 16).toInt := congrArg Int32.toInt a23
      have a25 : gV τ11 22 0 6 = (gV τ 22 0 6) := (show gV τ11 22 0 6 = (gV τ 22 0 6) from gV_put eτ11 rfl)
      have q26 : (gV τ11 22 0 6).toInt = (gV τ 22 0 6).toInt := congrArg Int32.toInt a25
      have a27 : gV τ11 23 0 150 = (gV τ 23 0 150) := (show gV τ11 23 0 150 = (gV τ 23 0 150) from (gV_putn eτ11 (Or.inr (Or.inr (nat_ne b10 (by decide))))).trans rfl)
      have q28 : (gV τ11 23 0 150).toInt = (gV τ 23 0 150).toInt := congrArg Int32.toInt a27
      have a29 : gV τ11 23 0 152 = (gV τ 23 0 152) := (show gV τ11 23 0 152 = (gV τ 23 0 152) from (gV_putn eτ11 (Or.inr (Or.inr (nat_ne b10 (by decide))))).trans rfl)
      have q30 : (gV τ11 23 0 152).toInt = (gV τ 23 0 152).toInt := congrArg Int32.toInt a29
      have a31 : gV τ11 23 0 188 = (gV τ 23 0 188) := (show gV τ11 23 0 188 = (gV τ 23 0 188) from (gV_putn eτ11 (Or.inr (Or.inr (nat_ne b10 (by decide))))).trans rfl)
      have q32 : (gV τ11 23 0 188).toInt = (gV τ 23 0 188).toInt := congrArg Int32.toInt a31
      have b33 : IV (gV τ 23 0 152) 0 6 := ⟨by have q1 := u4; omega, by have q1 := u4; omega⟩
      refine m_iadd C dX12_takePerson_186 ?_
      refine m_topi (fun x34 ex34 => ?_)
      have tx34 : x34.toInt = (gV τ 23 0 152).toInt + 1 := by rw [ex34, ti_addv b33 kc_1 (by decide), kt_1]
      have b35 : IV x34 1 7 := by rw [ex34]; exact iv_add b33 kc_1 (by decide)
      refine as_23 C kc_152 (by decide) kn_152 dX12_takePerson_187 ?_
      refine m_tops (fun τ36 eτ36 => ?_)
      have i37 : Inv τ36 := eτ36 ▸ Inv.putR i12 (by decide) (iv_wk b35 (by decide))
      have f38 : Fr MS_X12_takePersonE AS_X12_takePersonE σ τ36 := eτ36 ▸ Fr.put (f13) (Or.inr (by decide))
      have v39 : CP (gV σ 23 0 152).toInt τ36 := v14.put eτ36 (Or.inr (fun q hq => by omega))
      have v40 : TpM τ36 T N := v15.put eτ36 (Or.inl (by decide)) (by decide)
      have v41 : CQ (gV σ 23 0 152).toInt.toNat τ36 := v16.put eτ36 (Or.inl (by decide)) (Or.inr (by omega))
      have v42 : τ36.2.2.1 = τ.2.2.1 := by rw [eτ36]; exact v17
      have v43 : CuM T N (tE T N (tE T N (tE T N (tE T N (tE T N i))))) τ36 := CuM.put v18 eτ36 (Or.inl (by decide))
      refine m_aload_n C dX12_takePerson_188 rfl rfl ?_
      clear q20 q22 q24 q26 q28 q30 q32
      have a44 : gV τ36 22 0 11 = (gV τ 22 0 11) := (show gV τ36 22 0 11 = (gV τ 22 0 11) from gV_put eτ36 a19)
      have q45 : (gV τ36 22 0 11).toInt = (gV τ 22 0 11).toInt := congrArg Int32.toInt a44
      have a46 : gV τ36 22 0 12 = (gV τ 22 0 12) := (show gV τ36 22 0 12 = (gV τ 22 0 12) from gV_put eτ36 a21)
      have q47 : (gV τ36 22 0 12).toInt = (gV τ 22 0 12).toInt := congrArg Int32.toInt a46
      have a48 : gV τ36 22 0 16 = (gV τ 22 0 16) := (show gV τ36 22 0 16 = (gV τ 22 0 16) from gV_put eτ36 a23)
      have q49 : (gV τ36 22 0 16).toInt = (gV τ 22 0 16).toInt := congrArg Int32.toInt a48
      have a50 : gV τ36 22 0 6 = (gV τ 22 0 6) := (show gV τ36 22 0 6 = (gV τ 22 0 6) from gV_put eτ36 a25)
      have q51 : (gV τ36 22 0 6).toInt = (gV τ 22 0 6).toInt := congrArg Int32.toInt a50
      have a52 : gV τ36 23 0 150 = (gV τ 23 0 150) := (show gV τ36 23 0 150 = (gV τ 23 0 150) from gV_put eτ36 a27)
      have q53 : (gV τ36 23 0 150).toInt = (gV τ 23 0 150).toInt := congrArg Int32.toInt a52
      have a54 : gV τ36 23 0 188 = (gV τ 23 0 188) := (show gV τ36 23 0 188 = (gV τ 23 0 188) from gV_put eτ36 a31)
      have q55 : (gV τ36 23 0 188).toInt = (gV τ 23 0 188).toInt := congrArg Int32.toInt a54
      have a56 : gV τ36 23 0 152 = x34 := (show gV τ36 23 0 152 = x34 from gV_put eτ36 (gV_self _ _ _ _ _))
      have q57 : (gV τ36 23 0 152).toInt = x34.toInt := congrArg Int32.toInt a56
      refine m_callV (n := 0) (ci := 11) (st := []) C (c_X12_takeSignE l G τ36 T N (tE T N (tE T N (tE T N (tE T N (tE T N i)))))  i37 v40 (fun _ => v43.1) (by omega)) (by decide) (by decide) rfl rfl rfl q5_15 q5_12 q5_14 q0_32 q1_7 (by decide +kernel) rfl (by decide) (by decide) rfl (Nat.le_of_ble_eq_true rfl) dX12_takePerson_189 ?_
      rintro _ τ58 ⟨rfl, i59, f60, h64⟩
      have g63 : Fr MS_X12_takePersonE AS_X12_takePersonE σ τ58 := Fr.call (f38) f60 (by decide)
      have v65 : CP (gV σ 23 0 152).toInt τ58 := v39.call (fun k => f60.1 23 0 k (by simp) (by decide))
      have v66 : TpM τ58 T N := v40.fr f60 (by decide) (by decide) (by simp) (by decide)
      have u67 : IV (gV τ58 22 0 11) 0 400 := i59.1 22 0 11
      have a68 : gV τ58 22 0 6 = (gV τ 22 0 6) := (show gV τ58 22 0 6 = (gV τ 22 0 6) from (f60.1 22 0 (6) (by decide) (by decide)).trans a50)
      have q69 : (gV τ58 22 0 6).toInt = (gV τ 22 0 6).toInt := congrArg Int32.toInt a68
      have a70 : gV τ58 23 0 150 = (gV τ 23 0 150) := (show gV τ58 23 0 150 = (gV τ 23 0 150) from (f60.1 23 0 (150) (by decide) (by decide)).trans a52)
      have q71 : (gV τ58 23 0 150).toInt = (gV τ 23 0 150).toInt := congrArg Int32.toInt a70
      have a72 : gV τ58 23 0 188 = (gV τ 23 0 188) := (show gV τ58 23 0 188 = (gV τ 23 0 188) from (f60.1 23 0 (188) (by decide) (by decide)).trans a54)
      have q73 : (gV τ58 23 0 188).toInt = (gV τ 23 0 188).toInt := congrArg Int32.toInt a72
      have a74 : gV τ58 23 0 152 = x34 := (show gV τ58 23 0 152 = x34 from (f60.1 23 0 (152) (by decide) (by decide)).trans a56)
      have q75 : (gV τ58 23 0 152).toInt = x34.toInt := congrArg Int32.toInt a74
      rcases h64 with ⟨h64_0, h64_1, h64_2, h64_3⟩ | ⟨h64_0, h64_1, h64_2, h64_3, h64_4⟩ | ⟨h64_0, h64_1, h64_2, h64_3, h64_4, h64_5⟩
      · skip
        exfalso; omega
      · skip
        have v76 : CQ (gV σ 23 0 152).toInt.toNat τ58 := v41.call (fun q => by omega) (fun k => f60.1 23 0 k (by simp) (by decide))
        have b77 : IV (gV τ58 22 0 16) 1 1 := ⟨by omega, by omega⟩
        show MW p l e _ s m args below meth c _ 4 G 0 0 192 [some (.ref (G.1 22 0)), some (.int y1), none, none] [] τ58
        exact m_vret C hr hlk (by decide) (by decide) dX12_takePerson_192 ⟨rfl, i59, g63, (by have qd := per_8 T N st cc i (by omega) (by omega) (by omega) (by omega) (by omega) (by omega) (by omega) (by omega) (by omega); exact Or.inl ⟨by omega, by omega, by omega, by omega, by omega, by omega⟩)⟩
      · skip
        have v78 : CQ (gV σ 23 0 152).toInt.toNat τ58 := v41.call (fun q => by omega) (fun k => f60.1 23 0 k (by simp) (by decide))
        have b79 : IV (gV τ58 22 0 16) 0 0 := ⟨by omega, by omega⟩
        have v80 : CuM T N (tE T N (tE T N (tE T N (tE T N (tE T N (tE T N i)))))) τ58 := ⟨h64_3, h64_4⟩
        clear h64_3
        show MW p l e _ s m args below meth c _ 4 G 0 0 192 [some (.ref (G.1 22 0)), some (.int y1), none, none] [] τ58
        exact m_vret C hr hlk (by decide) (by decide) dX12_takePerson_192 ⟨rfl, i59, g63, (by have qd := per_ok T N st cc i (by omega) (by omega) (by omega) (by omega) (by omega) (by omega) (by omega) (by omega) (by omega); exact Or.inr ⟨by omega, by omega, by omega, v80.1, by omega, by omega, Pb.mk (by omega) v65 (v78 (by omega)) (by omega), h64_5⟩)⟩
    · skip
      have b81 : IV (gV τ 22 0 16) 1 3 := ⟨by omega, by omega⟩
      refine m_aload_n C dX12_takePerson_165 rfl rfl ?_
      refine g_22_0 C q4_116 dX12_takePerson_166 ?_
      refine m_sipush (v := 181) C dX12_takePerson_169 (by decide) ?_
      refine m_iload_n C dX12_takePerson_172 rfl rfl ?_
      refine m_iadd C dX12_takePerson_173 ?_
      refine m_topi (fun x82 ex82 => ?_)
      have tx82 : x82.toInt = 181 + y1.toInt := by rw [ex82, ti_addv kc_181 b_y1 (by decide), kt_181]
      have b83 : IV x82 181 187 := by rw [ex82]; exact iv_add kc_181 b_y1 (by decide)
      refine m_iconst (v := 0) C dX12_takePerson_174 (by decide) ?_
      refine as_23 C b83 (by decide) rfl dX12_takePerson_175 ?_
      refine m_tops (fun τ84 eτ84 => ?_)
      have i85 : Inv τ84 := eτ84 ▸ Inv.putR0 iτ (by omega) kt_0
      have f86 : Fr MS_X12_takePersonE AS_X12_takePersonE σ τ84 := eτ84 ▸ Fr.put (fτ) (Or.inr (by decide))
      have v87 : CP (gV σ 23 0 152).toInt τ84 := v_CP.put eτ84 (Or.inr (fun q hq => by omega))
      have v88 : TpM τ84 T N := v_T.put eτ84 (Or.inl (by decide)) (by decide)
      have v89 : CQ (gV σ 23 0 152).toInt.toNat τ84 := v_CQ.put eτ84 (Or.inl (by decide)) (Or.inr (by omega))
      have v90 : τ84.2.2.1 = τ.2.2.1 := by rw [eτ84]; rfl
      refine m_aload_n C dX12_takePerson_176 rfl rfl ?_
      refine g_22_0 C q4_116 dX12_takePerson_177 ?_
      refine m_sipush (v := 152) C dX12_takePerson_180 (by decide) ?_
      refine m_dup2 C dX12_takePerson_183 rfl rfl ?_
      refine al_23 C kc_152 (by decide) kn_152 dX12_takePerson_184 ?_
      refine m_eqs (w := (gV τ 23 0 152)) (show gV τ84 23 0 152 = (gV τ 23 0 152) from (gV_putn eτ84 (Or.inr (Or.inr (nat_ne b83 (by decide))))).trans rfl) ?_
      refine m_iconst (v := 1) C dX12_takePerson_185 (by decide) ?_
      have a91 : gV τ84 22 0 11 = (gV τ 22 0 11) := (show gV τ84 22 0 11 = (gV τ 22 0 11) from gV_put eτ84 rfl)
      have q92 : (gV τ84 22 0 11).toInt = (gV τ 22 0 11).toInt := congrArg Int32.toInt a91
      have a93 : gV τ84 22 0 12 = (gV τ 22 0 12) := (show gV τ84 22 0 12 = (gV τ 22 0 12) from gV_put eτ84 rfl)
      have q94 : (gV τ84 22 0 12).toInt = (gV τ 22 0 12).toInt := congrArg Int32.toInt a93
      have a95 : gV τ84 22 0 16 = (gV τ 22 0 16) := (show gV τ84 22 0 16 = (gV τ 22 0 16) from gV_put eτ84 rfl)
      have q96 : (gV τ84 22 0 16).toInt = (gV τ 22 0 16).toInt := congrArg Int32.toInt a95
      have a97 : gV τ84 22 0 6 = (gV τ 22 0 6) := (show gV τ84 22 0 6 = (gV τ 22 0 6) from gV_put eτ84 rfl)
      have q98 : (gV τ84 22 0 6).toInt = (gV τ 22 0 6).toInt := congrArg Int32.toInt a97
      have a99 : gV τ84 23 0 150 = (gV τ 23 0 150) := (show gV τ84 23 0 150 = (gV τ 23 0 150) from (gV_putn eτ84 (Or.inr (Or.inr (nat_ne b83 (by decide))))).trans rfl)
      have q100 : (gV τ84 23 0 150).toInt = (gV τ 23 0 150).toInt := congrArg Int32.toInt a99
      have a101 : gV τ84 23 0 152 = (gV τ 23 0 152) := (show gV τ84 23 0 152 = (gV τ 23 0 152) from (gV_putn eτ84 (Or.inr (Or.inr (nat_ne b83 (by decide))))).trans rfl)
      have q102 : (gV τ84 23 0 152).toInt = (gV τ 23 0 152).toInt := congrArg Int32.toInt a101
      have a103 : gV τ84 23 0 188 = (gV τ 23 0 188) := (show gV τ84 23 0 188 = (gV τ 23 0 188) from (gV_putn eτ84 (Or.inr (Or.inr (nat_ne b83 (by decide))))).trans rfl)
      have q104 : (gV τ84 23 0 188).toInt = (gV τ 23 0 188).toInt := congrArg Int32.toInt a103
      have b105 : IV (gV τ 23 0 152) 0 6 := ⟨by have q1 := u4; omega, by have q1 := u4; omega⟩
      refine m_iadd C dX12_takePerson_186 ?_
      refine m_topi (fun x106 ex106 => ?_)
      have tx106 : x106.toInt = (gV τ 23 0 152).toInt + 1 := by rw [ex106, ti_addv b105 kc_1 (by decide), kt_1]
      have b107 : IV x106 1 7 := by rw [ex106]; exact iv_add b105 kc_1 (by decide)
      refine as_23 C kc_152 (by decide) kn_152 dX12_takePerson_187 ?_
      refine m_tops (fun τ108 eτ108 => ?_)
      have i109 : Inv τ108 := eτ108 ▸ Inv.putR i85 (by decide) (iv_wk b107 (by decide))
      have f110 : Fr MS_X12_takePersonE AS_X12_takePersonE σ τ108 := eτ108 ▸ Fr.put (f86) (Or.inr (by decide))
      have v111 : CP (gV σ 23 0 152).toInt τ108 := v87.put eτ108 (Or.inr (fun q hq => by omega))
      have v112 : TpM τ108 T N := v88.put eτ108 (Or.inl (by decide)) (by decide)
      have v113 : CQ (gV σ 23 0 152).toInt.toNat τ108 := v89.put eτ108 (Or.inl (by decide)) (Or.inr (by omega))
      have v114 : τ108.2.2.1 = τ.2.2.1 := by rw [eτ108]; exact v90
      refine m_aload_n C dX12_takePerson_188 rfl rfl ?_
      clear q92 q94 q96 q98 q100 q102 q104
      have a115 : gV τ108 22 0 11 = (gV τ 22 0 11) := (show gV τ108 22 0 11 = (gV τ 22 0 11) from gV_put eτ108 a91)
      have q116 : (gV τ108 22 0 11).toInt = (gV τ 22 0 11).toInt := congrArg Int32.toInt a115
      have a117 : gV τ108 22 0 12 = (gV τ 22 0 12) := (show gV τ108 22 0 12 = (gV τ 22 0 12) from gV_put eτ108 a93)
      have q118 : (gV τ108 22 0 12).toInt = (gV τ 22 0 12).toInt := congrArg Int32.toInt a117
      have a119 : gV τ108 22 0 16 = (gV τ 22 0 16) := (show gV τ108 22 0 16 = (gV τ 22 0 16) from gV_put eτ108 a95)
      have q120 : (gV τ108 22 0 16).toInt = (gV τ 22 0 16).toInt := congrArg Int32.toInt a119
      have a121 : gV τ108 22 0 6 = (gV τ 22 0 6) := (show gV τ108 22 0 6 = (gV τ 22 0 6) from gV_put eτ108 a97)
      have q122 : (gV τ108 22 0 6).toInt = (gV τ 22 0 6).toInt := congrArg Int32.toInt a121
      have a123 : gV τ108 23 0 150 = (gV τ 23 0 150) := (show gV τ108 23 0 150 = (gV τ 23 0 150) from gV_put eτ108 a99)
      have q124 : (gV τ108 23 0 150).toInt = (gV τ 23 0 150).toInt := congrArg Int32.toInt a123
      have a125 : gV τ108 23 0 188 = (gV τ 23 0 188) := (show gV τ108 23 0 188 = (gV τ 23 0 188) from gV_put eτ108 a103)
      have q126 : (gV τ108 23 0 188).toInt = (gV τ 23 0 188).toInt := congrArg Int32.toInt a125
      have a127 : gV τ108 23 0 152 = x106 := (show gV τ108 23 0 152 = x106 from gV_put eτ108 (gV_self _ _ _ _ _))
      have q128 : (gV τ108 23 0 152).toInt = x106.toInt := congrArg Int32.toInt a127
      refine m_callV (n := 0) (ci := 11) (st := []) C (c_X12_takeSignE l G τ108 T N (tE T N (tE T N (tE T N (tE T N (tE T N i)))))  i109 v112 (fun h => absurd h (by omega)) (by omega)) (by decide) (by decide) rfl rfl rfl q5_15 q5_12 q5_14 q0_32 q1_7 (by decide +kernel) rfl (by decide) (by decide) rfl (Nat.le_of_ble_eq_true rfl) dX12_takePerson_189 ?_
      rintro _ τ129 ⟨rfl, i130, f131, h135⟩
      have g134 : Fr MS_X12_takePersonE AS_X12_takePersonE σ τ129 := Fr.call (f110) f131 (by decide)
      have v136 : CP (gV σ 23 0 152).toInt τ129 := v111.call (fun k => f131.1 23 0 k (by simp) (by decide))
      have v137 : TpM τ129 T N := v112.fr f131 (by decide) (by decide) (by simp) (by decide)
      have u138 : IV (gV τ129 22 0 11) 0 400 := i130.1 22 0 11
      have a139 : gV τ129 22 0 6 = (gV τ 22 0 6) := (show gV τ129 22 0 6 = (gV τ 22 0 6) from (f131.1 22 0 (6) (by decide) (by decide)).trans a121)
      have q140 : (gV τ129 22 0 6).toInt = (gV τ 22 0 6).toInt := congrArg Int32.toInt a139
      have a141 : gV τ129 23 0 150 = (gV τ 23 0 150) := (show gV τ129 23 0 150 = (gV τ 23 0 150) from (f131.1 23 0 (150) (by decide) (by decide)).trans a123)
      have q142 : (gV τ129 23 0 150).toInt = (gV τ 23 0 150).toInt := congrArg Int32.toInt a141
      have a143 : gV τ129 23 0 188 = (gV τ 23 0 188) := (show gV τ129 23 0 188 = (gV τ 23 0 188) from (f131.1 23 0 (188) (by decide) (by decide)).trans a125)
      have q144 : (gV τ129 23 0 188).toInt = (gV τ 23 0 188).toInt := congrArg Int32.toInt a143
      have a145 : gV τ129 23 0 152 = x106 := (show gV τ129 23 0 152 = x106 from (f131.1 23 0 (152) (by decide) (by decide)).trans a127)
      have q146 : (gV τ129 23 0 152).toInt = x106.toInt := congrArg Int32.toInt a145
      rcases h135 with ⟨h135_0, h135_1, h135_2, h135_3⟩ | ⟨h135_0, h135_1, h135_2, h135_3, h135_4⟩ | ⟨h135_0, h135_1, h135_2, h135_3, h135_4, h135_5⟩
      · skip
        have v147 : CQ (gV σ 23 0 152).toInt.toNat τ129 := v113.call (fun q => by omega) (fun k => f131.1 23 0 k (by simp) (by decide))
        show MW p l e _ s m args below meth c _ 4 G 0 0 192 [some (.ref (G.1 22 0)), some (.int y1), none, none] [] τ129
        exact m_vret C hr hlk (by decide) (by decide) dX12_takePerson_192 ⟨rfl, i130, g134, (by exact Or.inl ⟨by omega, by omega, by omega, by omega, by omega, by omega⟩)⟩
      · skip
        exfalso; omega
      · skip
        exfalso; omega
  have J144 : ∀ (τ : Sg) (y1 : Int32) (y3 : Int32), Inv τ → Fr MS_X12_takePersonE AS_X12_takePersonE σ τ → IV y1 0 6 → IV y3 (-2147483648) 2147483647 → (CP (gV σ 23 0 152).toInt τ) → (CQ (gV σ 23 0 152).toInt.toNat τ) → (TpM τ T N) → (((gV τ 22 0 11).toInt ≤ (gV τ 22 0 6).toInt ∧ (gV τ 23 0 150).toInt = st ∧ (gV τ 23 0 152).toInt = cc ∧ (gV τ 23 0 188).toInt = (gV σ 23 0 188).toInt ∧ cc ≤ 6 ∧ y1.toInt = cc)) → ((((gV τ 22 0 16).toInt = 0 ∧ tQ T N (tE T N i) ≠ 0 ∧ (tK T N (tE T N (tE T N i)) = 2 ∧ 1 ≤ tV T (tE T N (tE T N i)) ∧ tV T (tE T N (tE T N i)) ≤ 20) ∧ (tK T N (tE T N (tE T N (tE T N i))) = 2 ∧ 1 ≤ tV T (tE T N (tE T N (tE T N i))) ∧ tV T (tE T N (tE T N (tE T N i))) ≤ 4) ∧ (tK T N (tE T N (tE T N (tE T N (tE T N i)))) = 2 ∧ (tV T (tE T N (tE T N (tE T N (tE T N i)))) = 99 ∨ (0 ≤ tV T (tE T N (tE T N (tE T N (tE T N i)))) ∧ tV T (tE T N (tE T N (tE T N (tE T N i)))) ≤ st - 1))) ∧ True ∧ CuM T N (tE T N (tE T N (tE T N (tE T N (tE T N i))))) τ) ∨ ((1 ≤ (gV τ 22 0 16).toInt ∧ (gV τ 22 0 16).toInt ≤ 3) ∧ perF T N st cc i = (gV τ 22 0 16).toInt ∧ ((gV τ 22 0 12).toInt = perP T N st cc i ∧ 0 ≤ (gV τ 22 0 12).toInt ∧ (gV τ 22 0 12).toInt ≤ 400)))) → MW p l e { frames := 3, cells := 0, slots := 0, locals := 69 } s m args below meth c (MQ below (QP G (PV fun τ => Inv τ ∧ Fr MS_X12_takePersonE AS_X12_takePersonE σ τ ∧ ((perF T N st cc i ≠ 0 ∧ ((gV τ 22 0 16).toInt = perF T N st cc i ∧ 1 ≤ (gV τ 22 0 16).toInt ∧ (gV τ 22 0 16).toInt ≤ 3) ∧ ((gV τ 22 0 12).toInt = perP T N st cc i ∧ 0 ≤ (gV τ 22 0 12).toInt ∧ (gV τ 22 0 12).toInt ≤ 400) ∧ ((gV τ 23 0 152).toInt = cc ∨ (gV τ 23 0 152).toInt = cc + 1) ∧ ((gV τ 23 0 150).toInt = (gV σ 23 0 150).toInt ∧ (gV τ 23 0 188).toInt = (gV σ 23 0 188).toInt) ∧ (gV τ 22 0 11).toInt ≤ (gV τ 22 0 6).toInt) ∨ (perF T N st cc i = 0 ∧ (gV τ 22 0 16).toInt = 0 ∧ (gV τ 23 0 152).toInt = cc + 1 ∧ ((gV τ 22 0 12).toInt = (tS T (tE T N (tE T N (tE T N (tE T N (tE T N (tE T N i)))))) : Int) ∧ (tK T N (tE T N (tE T N (tE T N (tE T N (tE T N (tE T N i)))))) ≠ 4 → (gV τ 22 0 11).toInt = (tE T N (tE T N (tE T N (tE T N (tE T N (tE T N (tE T N i)))))) : Int)) ∧ (gV τ 22 0 13).toInt = (tK T N (tE T N (tE T N (tE T N (tE T N (tE T N (tE T N i)))))) + 4) % 5 ∧ 0 ≤ tK T N (tE T N (tE T N (tE T N (tE T N (tE T N (tE T N i)))))) ∧ tK T N (tE T N (tE T N (tE T N (tE T N (tE T N (tE T N i)))))) ≤ 4 ∧ (tK T N (tE T N (tE T N (tE T N (tE T N (tE T N (tE T N i)))))) = 2 → (gV τ 22 0 15).toInt = tV T (tE T N (tE T N (tE T N (tE T N (tE T N (tE T N i))))))) ∧ (gV τ 22 0 12).toInt ≤ 400) ∧ ((gV τ 23 0 150).toInt = (gV σ 23 0 150).toInt ∧ (gV τ 23 0 188).toInt = (gV σ 23 0 188).toInt) ∧ (gV τ 22 0 11).toInt ≤ (gV τ 22 0 6).toInt ∧ Pb τ ∧ LW T N (tE T N (tE T N (tE T N (tE T N (tE T N (tE T N i)))))) τ.2.2.1)))) args s 0 0 (aG G)) 4 G 0 0 144 [some (.ref (G.1 22 0)), some (.int y1), none, some (.int y3)] [] τ := by
    intro τ y1 y3 iτ fτ b_y1 b_y3 v_CP v_CQ v_T n148 nR
    have u149 : IV (gV τ 22 0 11) 0 400 := iτ.1 22 0 11
    have u150 : IV (gV τ 22 0 6) 0 400 := iτ.1 22 0 6
    have u151 : IV (gV τ 23 0 152) 0 7 := iτ.1 23 0 152
    have u152 : IV (gV τ 23 0 188) 0 4 := iτ.1 23 0 188
    have q153 : (gV τ 22 0 6).toInt = (N : Int) := v_T.1
    have q154 := v_T.2.1
    rcases nR with ⟨n0_, n1_, n2_, n3_, n4_, nT_, nc_⟩ | ⟨n0_, n1_, n2_⟩
    · skip
      have b155 : IV (gV τ 22 0 16) 0 0 := ⟨by omega, by omega⟩
      refine m_aload_n C dX12_takePerson_144 rfl rfl ?_
      refine g_22_0 C q4_116 dX12_takePerson_145 ?_
      refine m_sipush (v := 174) C dX12_takePerson_148 (by decide) ?_
      refine m_iload_n C dX12_takePerson_151 rfl rfl ?_
      refine m_iadd C dX12_takePerson_152 ?_
      refine m_topi (fun x156 ex156 => ?_)
      have tx156 : x156.toInt = 174 + y1.toInt := by rw [ex156, ti_addv kc_174 b_y1 (by decide), kt_174]
      have b157 : IV x156 174 180 := by rw [ex156]; exact iv_add kc_174 b_y1 (by decide)
      refine m_iload_n C dX12_takePerson_153 rfl rfl ?_
      refine m_bipush (v := 99) C dX12_takePerson_154 (by decide) ?_
      refine m_icmp_ne (tgt := 163) C dX12_takePerson_156 (by decide) (fun c158 => ?_) (fun c158 => ?_)
      · have f159 : y3.toInt ≠ 99 := by
          have q : _ := c158
          simp only [ti_nle, ti_nlt, ti_le, ti_lt, ti_eq, ti_ne, Classical.not_not, kt_99] at q
          omega
        refine m_iload_n C dX12_takePerson_163 rfl rfl ?_
        refine as_23 C b157 (by decide) rfl dX12_takePerson_164 ?_
        refine m_tops (fun τ160 eτ160 => ?_)
        have i161 : Inv τ160 := eτ160 ▸ Inv.putRo iτ (by omega)
        have f162 : Fr MS_X12_takePersonE AS_X12_takePersonE σ τ160 := eτ160 ▸ Fr.put (fτ) (Or.inr (by decide))
        have v163 : CP (gV σ 23 0 152).toInt τ160 := v_CP.put eτ160 (Or.inr (fun q hq => by omega))
        have v164 : TpM τ160 T N := v_T.put eτ160 (Or.inl (by decide)) (by decide)
        have v165 : CQ (gV σ 23 0 152).toInt.toNat τ160 := v_CQ.put eτ160 (Or.inl (by decide)) (Or.inr (by omega))
        have v166 : τ160.2.2.1 = τ.2.2.1 := by rw [eτ160]; rfl
        have v167 : CuM T N (tE T N (tE T N (tE T N (tE T N (tE T N i))))) τ160 := CuM.put nc_ eτ160 (Or.inl (by decide))
        refine m_sub (L1 := [some (.ref (G.1 22 0)), some (.int y1), none, none]) ⟨rfl, ⟨rfl, trivial⟩⟩ ?_
        have a168 : gV τ160 22 0 11 = (gV τ 22 0 11) := (show gV τ160 22 0 11 = (gV τ 22 0 11) from gV_put eτ160 rfl)
        have q169 : (gV τ160 22 0 11).toInt = (gV τ 22 0 11).toInt := congrArg Int32.toInt a168
        have a170 : gV τ160 22 0 12 = (gV τ 22 0 12) := (show gV τ160 22 0 12 = (gV τ 22 0 12) from gV_put eτ160 rfl)
        have q171 : (gV τ160 22 0 12).toInt = (gV τ 22 0 12).toInt := congrArg Int32.toInt a170
        have a172 : gV τ160 22 0 16 = (gV τ 22 0 16) := (show gV τ160 22 0 16 = (gV τ 22 0 16) from gV_put eτ160 rfl)
        have q173 : (gV τ160 22 0 16).toInt = (gV τ 22 0 16).toInt := congrArg Int32.toInt a172
        have a174 : gV τ160 22 0 6 = (gV τ 22 0 6) := (show gV τ160 22 0 6 = (gV τ 22 0 6) from gV_put eτ160 rfl)
        have q175 : (gV τ160 22 0 6).toInt = (gV τ 22 0 6).toInt := congrArg Int32.toInt a174
        have a176 : gV τ160 23 0 150 = (gV τ 23 0 150) := (show gV τ160 23 0 150 = (gV τ 23 0 150) from (gV_putn eτ160 (Or.inr (Or.inr (nat_ne b157 (by decide))))).trans rfl)
        have q177 : (gV τ160 23 0 150).toInt = (gV τ 23 0 150).toInt := congrArg Int32.toInt a176
        have a178 : gV τ160 23 0 152 = (gV τ 23 0 152) := (show gV τ160 23 0 152 = (gV τ 23 0 152) from (gV_putn eτ160 (Or.inr (Or.inr (nat_ne b157 (by decide))))).trans rfl)
        have q179 : (gV τ160 23 0 152).toInt = (gV τ 23 0 152).toInt := congrArg Int32.toInt a178
        have a180 : gV τ160 23 0 188 = (gV τ 23 0 188) := (show gV τ160 23 0 188 = (gV τ 23 0 188) from (gV_putn eτ160 (Or.inr (Or.inr (nat_ne b157 (by decide))))).trans rfl)
        have q181 : (gV τ160 23 0 188).toInt = (gV τ 23 0 188).toInt := congrArg Int32.toInt a180
        exact J165 τ160 y1 i161 f162 b_y1 v163 v165 v164 (by omega) (Or.inl ⟨by omega, by omega, by omega, by omega, by omega, trivial, v167⟩)
      · have f182 : y3.toInt = 99 := by
          have q : _ := c158
          simp only [ti_nle, ti_nlt, ti_le, ti_lt, ti_eq, ti_ne, Classical.not_not, kt_99] at q
          omega
        have b183 : IV y3 99 99 := ⟨by have q1 := b_y3; have q2 := kc_99; omega, by have q1 := b_y3; have q2 := kc_99; omega⟩
        refine m_iconst (v := (-1)) C dX12_takePerson_159 (by decide) ?_
        refine m_goto (tgt := 164) C dX12_takePerson_160 (by decide) ?_
        refine as_23 C b157 (by decide) rfl dX12_takePerson_164 ?_
        refine m_tops (fun τ184 eτ184 => ?_)
        have i185 : Inv τ184 := eτ184 ▸ Inv.putRo iτ (by omega)
        have f186 : Fr MS_X12_takePersonE AS_X12_takePersonE σ τ184 := eτ184 ▸ Fr.put (fτ) (Or.inr (by decide))
        have v187 : CP (gV σ 23 0 152).toInt τ184 := v_CP.put eτ184 (Or.inr (fun q hq => by omega))
        have v188 : TpM τ184 T N := v_T.put eτ184 (Or.inl (by decide)) (by decide)
        have v189 : CQ (gV σ 23 0 152).toInt.toNat τ184 := v_CQ.put eτ184 (Or.inl (by decide)) (Or.inr (by omega))
        have v190 : τ184.2.2.1 = τ.2.2.1 := by rw [eτ184]; rfl
        have v191 : CuM T N (tE T N (tE T N (tE T N (tE T N (tE T N i))))) τ184 := CuM.put nc_ eτ184 (Or.inl (by decide))
        refine m_sub (L1 := [some (.ref (G.1 22 0)), some (.int y1), none, none]) ⟨rfl, ⟨rfl, trivial⟩⟩ ?_
        have a192 : gV τ184 22 0 11 = (gV τ 22 0 11) := (show gV τ184 22 0 11 = (gV τ 22 0 11) from gV_put eτ184 rfl)
        have q193 : (gV τ184 22 0 11).toInt = (gV τ 22 0 11).toInt := congrArg Int32.toInt a192
        have a194 : gV τ184 22 0 12 = (gV τ 22 0 12) := (show gV τ184 22 0 12 = (gV τ 22 0 12) from gV_put eτ184 rfl)
        have q195 : (gV τ184 22 0 12).toInt = (gV τ 22 0 12).toInt := congrArg Int32.toInt a194
        have a196 : gV τ184 22 0 16 = (gV τ 22 0 16) := (show gV τ184 22 0 16 = (gV τ 22 0 16) from gV_put eτ184 rfl)
        have q197 : (gV τ184 22 0 16).toInt = (gV τ 22 0 16).toInt := congrArg Int32.toInt a196
        have a198 : gV τ184 22 0 6 = (gV τ 22 0 6) := (show gV τ184 22 0 6 = (gV τ 22 0 6) from gV_put eτ184 rfl)
        have q199 : (gV τ184 22 0 6).toInt = (gV τ 22 0 6).toInt := congrArg Int32.toInt a198
        have a200 : gV τ184 23 0 150 = (gV τ 23 0 150) := (show gV τ184 23 0 150 = (gV τ 23 0 150) from (gV_putn eτ184 (Or.inr (Or.inr (nat_ne b157 (by decide))))).trans rfl)
        have q201 : (gV τ184 23 0 150).toInt = (gV τ 23 0 150).toInt := congrArg Int32.toInt a200
        have a202 : gV τ184 23 0 152 = (gV τ 23 0 152) := (show gV τ184 23 0 152 = (gV τ 23 0 152) from (gV_putn eτ184 (Or.inr (Or.inr (nat_ne b157 (by decide))))).trans rfl)
        have q203 : (gV τ184 23 0 152).toInt = (gV τ 23 0 152).toInt := congrArg Int32.toInt a202
        have a204 : gV τ184 23 0 188 = (gV τ 23 0 188) := (show gV τ184 23 0 188 = (gV τ 23 0 188) from (gV_putn eτ184 (Or.inr (Or.inr (nat_ne b157 (by decide))))).trans rfl)
        have q205 : (gV τ184 23 0 188).toInt = (gV τ 23 0 188).toInt := congrArg Int32.toInt a204
        exact J165 τ184 y1 i185 f186 b_y1 v187 v189 v188 (by omega) (Or.inl ⟨by omega, by omega, by omega, by omega, by omega, trivial, v191⟩)
    · skip
      have b206 : IV (gV τ 22 0 16) 1 3 := ⟨by omega, by omega⟩
      refine m_aload_n C dX12_takePerson_144 rfl rfl ?_
      refine g_22_0 C q4_116 dX12_takePerson_145 ?_
      refine m_sipush (v := 174) C dX12_takePerson_148 (by decide) ?_
      refine m_iload_n C dX12_takePerson_151 rfl rfl ?_
      refine m_iadd C dX12_takePerson_152 ?_
      refine m_topi (fun x207 ex207 => ?_)
      have tx207 : x207.toInt = 174 + y1.toInt := by rw [ex207, ti_addv kc_174 b_y1 (by decide), kt_174]
      have b208 : IV x207 174 180 := by rw [ex207]; exact iv_add kc_174 b_y1 (by decide)
      refine m_iload_n C dX12_takePerson_153 rfl rfl ?_
      refine m_bipush (v := 99) C dX12_takePerson_154 (by decide) ?_
      refine m_icmp_ne (tgt := 163) C dX12_takePerson_156 (by decide) (fun c209 => ?_) (fun c209 => ?_)
      · have f210 : y3.toInt ≠ 99 := by
          have q : _ := c209
          simp only [ti_nle, ti_nlt, ti_le, ti_lt, ti_eq, ti_ne, Classical.not_not, kt_99] at q
          omega
        refine m_iload_n C dX12_takePerson_163 rfl rfl ?_
        refine as_23 C b208 (by decide) rfl dX12_takePerson_164 ?_
        refine m_tops (fun τ211 eτ211 => ?_)
        have i212 : Inv τ211 := eτ211 ▸ Inv.putRo iτ (by omega)
        have f213 : Fr MS_X12_takePersonE AS_X12_takePersonE σ τ211 := eτ211 ▸ Fr.put (fτ) (Or.inr (by decide))
        have v214 : CP (gV σ 23 0 152).toInt τ211 := v_CP.put eτ211 (Or.inr (fun q hq => by omega))
        have v215 : TpM τ211 T N := v_T.put eτ211 (Or.inl (by decide)) (by decide)
        have v216 : CQ (gV σ 23 0 152).toInt.toNat τ211 := v_CQ.put eτ211 (Or.inl (by decide)) (Or.inr (by omega))
        have v217 : τ211.2.2.1 = τ.2.2.1 := by rw [eτ211]; rfl
        refine m_sub (L1 := [some (.ref (G.1 22 0)), some (.int y1), none, none]) ⟨rfl, ⟨rfl, trivial⟩⟩ ?_
        have a218 : gV τ211 22 0 11 = (gV τ 22 0 11) := (show gV τ211 22 0 11 = (gV τ 22 0 11) from gV_put eτ211 rfl)
        have q219 : (gV τ211 22 0 11).toInt = (gV τ 22 0 11).toInt := congrArg Int32.toInt a218
        have a220 : gV τ211 22 0 12 = (gV τ 22 0 12) := (show gV τ211 22 0 12 = (gV τ 22 0 12) from gV_put eτ211 rfl)
        have q221 : (gV τ211 22 0 12).toInt = (gV τ 22 0 12).toInt := congrArg Int32.toInt a220
        have a222 : gV τ211 22 0 16 = (gV τ 22 0 16) := (show gV τ211 22 0 16 = (gV τ 22 0 16) from gV_put eτ211 rfl)
        have q223 : (gV τ211 22 0 16).toInt = (gV τ 22 0 16).toInt := congrArg Int32.toInt a222
        have a224 : gV τ211 22 0 6 = (gV τ 22 0 6) := (show gV τ211 22 0 6 = (gV τ 22 0 6) from gV_put eτ211 rfl)
        have q225 : (gV τ211 22 0 6).toInt = (gV τ 22 0 6).toInt := congrArg Int32.toInt a224
        have a226 : gV τ211 23 0 150 = (gV τ 23 0 150) := (show gV τ211 23 0 150 = (gV τ 23 0 150) from (gV_putn eτ211 (Or.inr (Or.inr (nat_ne b208 (by decide))))).trans rfl)
        have q227 : (gV τ211 23 0 150).toInt = (gV τ 23 0 150).toInt := congrArg Int32.toInt a226
        have a228 : gV τ211 23 0 152 = (gV τ 23 0 152) := (show gV τ211 23 0 152 = (gV τ 23 0 152) from (gV_putn eτ211 (Or.inr (Or.inr (nat_ne b208 (by decide))))).trans rfl)
        have q229 : (gV τ211 23 0 152).toInt = (gV τ 23 0 152).toInt := congrArg Int32.toInt a228
        have a230 : gV τ211 23 0 188 = (gV τ 23 0 188) := (show gV τ211 23 0 188 = (gV τ 23 0 188) from (gV_putn eτ211 (Or.inr (Or.inr (nat_ne b208 (by decide))))).trans rfl)
        have q231 : (gV τ211 23 0 188).toInt = (gV τ 23 0 188).toInt := congrArg Int32.toInt a230
        exact J165 τ211 y1 i212 f213 b_y1 v214 v216 v215 (by omega) (Or.inr (by exact ⟨by omega, by omega, by omega⟩))
      · have f232 : y3.toInt = 99 := by
          have q : _ := c209
          simp only [ti_nle, ti_nlt, ti_le, ti_lt, ti_eq, ti_ne, Classical.not_not, kt_99] at q
          omega
        have b233 : IV y3 99 99 := ⟨by have q1 := b_y3; have q2 := kc_99; omega, by have q1 := b_y3; have q2 := kc_99; omega⟩
        refine m_iconst (v := (-1)) C dX12_takePerson_159 (by decide) ?_
        refine m_goto (tgt := 164) C dX12_takePerson_160 (by decide) ?_
        refine as_23 C b208 (by decide) rfl dX12_takePerson_164 ?_
        refine m_tops (fun τ234 eτ234 => ?_)
        have i235 : Inv τ234 := eτ234 ▸ Inv.putRo iτ (by omega)
        have f236 : Fr MS_X12_takePersonE AS_X12_takePersonE σ τ234 := eτ234 ▸ Fr.put (fτ) (Or.inr (by decide))
        have v237 : CP (gV σ 23 0 152).toInt τ234 := v_CP.put eτ234 (Or.inr (fun q hq => by omega))
        have v238 : TpM τ234 T N := v_T.put eτ234 (Or.inl (by decide)) (by decide)
        have v239 : CQ (gV σ 23 0 152).toInt.toNat τ234 := v_CQ.put eτ234 (Or.inl (by decide)) (Or.inr (by omega))
        have v240 : τ234.2.2.1 = τ.2.2.1 := by rw [eτ234]; rfl
        refine m_sub (L1 := [some (.ref (G.1 22 0)), some (.int y1), none, none]) ⟨rfl, ⟨rfl, trivial⟩⟩ ?_
        have a241 : gV τ234 22 0 11 = (gV τ 22 0 11) := (show gV τ234 22 0 11 = (gV τ 22 0 11) from gV_put eτ234 rfl)
        have q242 : (gV τ234 22 0 11).toInt = (gV τ 22 0 11).toInt := congrArg Int32.toInt a241
        have a243 : gV τ234 22 0 12 = (gV τ 22 0 12) := (show gV τ234 22 0 12 = (gV τ 22 0 12) from gV_put eτ234 rfl)
        have q244 : (gV τ234 22 0 12).toInt = (gV τ 22 0 12).toInt := congrArg Int32.toInt a243
        have a245 : gV τ234 22 0 16 = (gV τ 22 0 16) := (show gV τ234 22 0 16 = (gV τ 22 0 16) from gV_put eτ234 rfl)
        have q246 : (gV τ234 22 0 16).toInt = (gV τ 22 0 16).toInt := congrArg Int32.toInt a245
        have a247 : gV τ234 22 0 6 = (gV τ 22 0 6) := (show gV τ234 22 0 6 = (gV τ 22 0 6) from gV_put eτ234 rfl)
        have q248 : (gV τ234 22 0 6).toInt = (gV τ 22 0 6).toInt := congrArg Int32.toInt a247
        have a249 : gV τ234 23 0 150 = (gV τ 23 0 150) := (show gV τ234 23 0 150 = (gV τ 23 0 150) from (gV_putn eτ234 (Or.inr (Or.inr (nat_ne b208 (by decide))))).trans rfl)
        have q250 : (gV τ234 23 0 150).toInt = (gV τ 23 0 150).toInt := congrArg Int32.toInt a249
        have a251 : gV τ234 23 0 152 = (gV τ 23 0 152) := (show gV τ234 23 0 152 = (gV τ 23 0 152) from (gV_putn eτ234 (Or.inr (Or.inr (nat_ne b208 (by decide))))).trans rfl)
        have q252 : (gV τ234 23 0 152).toInt = (gV τ 23 0 152).toInt := congrArg Int32.toInt a251
        have a253 : gV τ234 23 0 188 = (gV τ 23 0 188) := (show gV τ234 23 0 188 = (gV τ 23 0 188) from (gV_putn eτ234 (Or.inr (Or.inr (nat_ne b208 (by decide))))).trans rfl)
        have q254 : (gV τ234 23 0 188).toInt = (gV τ 23 0 188).toInt := congrArg Int32.toInt a253
        exact J165 τ234 y1 i235 f236 b_y1 v237 v239 v238 (by omega) (Or.inr (by exact ⟨by omega, by omega, by omega⟩))
  have J115 : ∀ (τ : Sg) (y1 : Int32), Inv τ → Fr MS_X12_takePersonE AS_X12_takePersonE σ τ → IV y1 0 6 → (CP (gV σ 23 0 152).toInt τ) → (CQ (gV σ 23 0 152).toInt.toNat τ) → (TpM τ T N) → (((gV τ 22 0 11).toInt ≤ (gV τ 22 0 6).toInt ∧ (gV τ 23 0 150).toInt = st ∧ (gV τ 23 0 152).toInt = cc ∧ (gV τ 23 0 188).toInt = (gV σ 23 0 188).toInt ∧ cc ≤ 6 ∧ y1.toInt = cc)) → ((((gV τ 22 0 16).toInt = 0 ∧ tQ T N (tE T N i) ≠ 0 ∧ (tK T N (tE T N (tE T N i)) = 2 ∧ 1 ≤ tV T (tE T N (tE T N i)) ∧ tV T (tE T N (tE T N i)) ≤ 20) ∧ (tK T N (tE T N (tE T N (tE T N i))) = 2 ∧ 1 ≤ tV T (tE T N (tE T N (tE T N i))) ∧ tV T (tE T N (tE T N (tE T N i))) ≤ 4) ∧ True ∧ CuM T N (tE T N (tE T N (tE T N (tE T N i)))) τ) ∨ ((1 ≤ (gV τ 22 0 16).toInt ∧ (gV τ 22 0 16).toInt ≤ 3) ∧ perF T N st cc i = (gV τ 22 0 16).toInt ∧ ((gV τ 22 0 12).toInt = perP T N st cc i ∧ 0 ≤ (gV τ 22 0 12).toInt ∧ (gV τ 22 0 12).toInt ≤ 400)))) → MW p l e { frames := 3, cells := 0, slots := 0, locals := 69 } s m args below meth c (MQ below (QP G (PV fun τ => Inv τ ∧ Fr MS_X12_takePersonE AS_X12_takePersonE σ τ ∧ ((perF T N st cc i ≠ 0 ∧ ((gV τ 22 0 16).toInt = perF T N st cc i ∧ 1 ≤ (gV τ 22 0 16).toInt ∧ (gV τ 22 0 16).toInt ≤ 3) ∧ ((gV τ 22 0 12).toInt = perP T N st cc i ∧ 0 ≤ (gV τ 22 0 12).toInt ∧ (gV τ 22 0 12).toInt ≤ 400) ∧ ((gV τ 23 0 152).toInt = cc ∨ (gV τ 23 0 152).toInt = cc + 1) ∧ ((gV τ 23 0 150).toInt = (gV σ 23 0 150).toInt ∧ (gV τ 23 0 188).toInt = (gV σ 23 0 188).toInt) ∧ (gV τ 22 0 11).toInt ≤ (gV τ 22 0 6).toInt) ∨ (perF T N st cc i = 0 ∧ (gV τ 22 0 16).toInt = 0 ∧ (gV τ 23 0 152).toInt = cc + 1 ∧ ((gV τ 22 0 12).toInt = (tS T (tE T N (tE T N (tE T N (tE T N (tE T N (tE T N i)))))) : Int) ∧ (tK T N (tE T N (tE T N (tE T N (tE T N (tE T N (tE T N i)))))) ≠ 4 → (gV τ 22 0 11).toInt = (tE T N (tE T N (tE T N (tE T N (tE T N (tE T N (tE T N i)))))) : Int)) ∧ (gV τ 22 0 13).toInt = (tK T N (tE T N (tE T N (tE T N (tE T N (tE T N (tE T N i)))))) + 4) % 5 ∧ 0 ≤ tK T N (tE T N (tE T N (tE T N (tE T N (tE T N (tE T N i)))))) ∧ tK T N (tE T N (tE T N (tE T N (tE T N (tE T N (tE T N i)))))) ≤ 4 ∧ (tK T N (tE T N (tE T N (tE T N (tE T N (tE T N (tE T N i)))))) = 2 → (gV τ 22 0 15).toInt = tV T (tE T N (tE T N (tE T N (tE T N (tE T N (tE T N i))))))) ∧ (gV τ 22 0 12).toInt ≤ 400) ∧ ((gV τ 23 0 150).toInt = (gV σ 23 0 150).toInt ∧ (gV τ 23 0 188).toInt = (gV σ 23 0 188).toInt) ∧ (gV τ 22 0 11).toInt ≤ (gV τ 22 0 6).toInt ∧ Pb τ ∧ LW T N (tE T N (tE T N (tE T N (tE T N (tE T N (tE T N i)))))) τ.2.2.1)))) args s 0 0 (aG G)) 4 G 0 0 115 [some (.ref (G.1 22 0)), some (.int y1), none, none] [] τ := by
    intro τ y1 iτ fτ b_y1 v_CP v_CQ v_T n255 nR
    have u256 : IV (gV τ 22 0 11) 0 400 := iτ.1 22 0 11
    have u257 : IV (gV τ 22 0 6) 0 400 := iτ.1 22 0 6
    have u258 : IV (gV τ 23 0 152) 0 7 := iτ.1 23 0 152
    have u259 : IV (gV τ 23 0 188) 0 4 := iτ.1 23 0 188
    have q260 : (gV τ 22 0 6).toInt = (N : Int) := v_T.1
    have q261 := v_T.2.1
    rcases nR with ⟨n0_, n1_, n2_, n3_, nT_, nc_⟩ | ⟨n0_, n1_, n2_⟩
    · skip
      have b262 : IV (gV τ 22 0 16) 0 0 := ⟨by omega, by omega⟩
      refine m_aload_n C dX12_takePerson_115 rfl rfl ?_
      refine g_22_16 C q4_132 dX12_takePerson_116 ?_
      refine m_eqs (w := (gV τ 22 0 16)) rfl ?_
      refine m_if_ne (tgt := 142) C dX12_takePerson_119 (by decide) (fun c263 => ?_) (fun c263 => ?_)
      · exfalso
        have q : _ := c263
        simp only [ti_nle, ti_nlt, ti_le, ti_lt, ti_eq, ti_ne, Classical.not_not, kt_0] at q
        have q1 := b262; have q2 := kc_0; omega
      · have f265 : (gV τ 22 0 16).toInt = 0 := by
          have q : _ := c263
          simp only [ti_nle, ti_nlt, ti_le, ti_lt, ti_eq, ti_ne, Classical.not_not, kt_0] at q
          omega
        refine m_aload_n C dX12_takePerson_122 rfl rfl ?_
        refine m_iconst (v := 0) C dX12_takePerson_123 (by decide) ?_
        refine m_aload_n C dX12_takePerson_124 rfl rfl ?_
        refine g_22_0 C q4_116 dX12_takePerson_125 ?_
        refine m_sipush (v := 150) C dX12_takePerson_128 (by decide) ?_
        refine al_23 C kc_150 (by decide) kn_150 dX12_takePerson_131 ?_
        refine m_eqs (w := (gV τ 23 0 150)) rfl ?_
        have b266 : IV (gV τ 23 0 150) 4 32 := ⟨by have q1 := (iv_any (gV τ 23 0 150)); omega, by have q1 := (iv_any (gV τ 23 0 150)); omega⟩
        refine m_iconst (v := 1) C dX12_takePerson_132 (by decide) ?_
        refine m_isub C dX12_takePerson_133 ?_
        refine m_topi (fun x267 ex267 => ?_)
        have tx267 : x267.toInt = (gV τ 23 0 150).toInt - 1 := by rw [ex267, ti_subv b266 kc_1 (by decide), kt_1]
        have b268 : IV x267 3 31 := by rw [ex267]; exact iv_sub b266 kc_1 (by decide)
        refine m_bipush (v := 99) C dX12_takePerson_134 (by decide) ?_
        have q269 := kt_0
        have q270 := kt_99
        refine m_callV (n := 3) (ci := 11) (st := []) C (c_X12_takeNumberE l G τ T N (tE T N (tE T N (tE T N (tE T N i)))) (0) (x267) (99) iτ v_T nc_.1 (by omega)) (by decide) (by decide) rfl rfl rfl q5_7 q5_4 q5_6 q0_30 q1_7 (by decide +kernel) rfl (by decide) (by decide) rfl (Nat.le_of_ble_eq_true rfl) dX12_takePerson_136 ?_
        rintro _ τ271 ⟨x274, rfl, i272, f273, b275, h277⟩
        have g276 : Fr MS_X12_takePersonE AS_X12_takePersonE σ τ271 := Fr.call (fτ) f273 (by decide)
        have v278 : CP (gV σ 23 0 152).toInt τ271 := v_CP.call (fun k => f273.1 23 0 k (by simp) (by decide))
        have v279 : TpM τ271 T N := v_T.fr f273 (by decide) (by decide) (by simp) (by decide)
        have u280 : IV (gV τ271 22 0 11) 0 400 := i272.1 22 0 11
        have a281 : gV τ271 22 0 6 = (gV τ 22 0 6) := (show gV τ271 22 0 6 = (gV τ 22 0 6) from (f273.1 22 0 (6) (by decide) (by decide)).trans rfl)
        have q282 : (gV τ271 22 0 6).toInt = (gV τ 22 0 6).toInt := congrArg Int32.toInt a281
        have a283 : gV τ271 23 0 150 = (gV τ 23 0 150) := (show gV τ271 23 0 150 = (gV τ 23 0 150) from (f273.1 23 0 (150) (by decide) (by decide)).trans rfl)
        have q284 : (gV τ271 23 0 150).toInt = (gV τ 23 0 150).toInt := congrArg Int32.toInt a283
        have a285 : gV τ271 23 0 152 = (gV τ 23 0 152) := (show gV τ271 23 0 152 = (gV τ 23 0 152) from (f273.1 23 0 (152) (by decide) (by decide)).trans rfl)
        have q286 : (gV τ271 23 0 152).toInt = (gV τ 23 0 152).toInt := congrArg Int32.toInt a285
        have a287 : gV τ271 23 0 188 = (gV τ 23 0 188) := (show gV τ271 23 0 188 = (gV τ 23 0 188) from (f273.1 23 0 (188) (by decide) (by decide)).trans rfl)
        have q288 : (gV τ271 23 0 188).toInt = (gV τ 23 0 188).toInt := congrArg Int32.toInt a287
        rcases h277 with ⟨h277_0, h277_1, h277_2, h277_3, h277_4⟩ | ⟨h277_0, h277_1, h277_2, h277_3, h277_4, h277_5, h277_6⟩ | ⟨h277_0, h277_1, h277_2, h277_3, h277_4, h277_5, h277_6⟩
        · skip
          have b289 : IV x274 (-1) (-1) := ⟨by omega, by omega⟩
          have v290 : CQ (gV σ 23 0 152).toInt.toNat τ271 := v_CQ.call (fun q => by omega) (fun k => f273.1 23 0 k (by simp) (by decide))
          have b291 : IV (gV τ271 22 0 16) 1 1 := ⟨by omega, by omega⟩
          show MW p l e _ s m args below meth c _ 4 G 0 0 139 [some (.ref (G.1 22 0)), some (.int y1), none, none] [.int x274] τ271
          refine m_goto (tgt := 143) C dX12_takePerson_139 (by decide) ?_
          refine m_istore_n (L1 := [some (.ref (G.1 22 0)), some (.int y1), none, some (.int x274)]) C dX12_takePerson_143 rfl (by decide) rfl rfl ?_
          exact J144 τ271 y1 x274 i272 g276 b_y1 (iv_wk b289 (by decide)) v278 v290 v279 (by omega) (Or.inr (by have qd := per_6 T N st cc i (by omega) (by omega) (by omega) (by omega) (by omega) (by omega) (by omega); exact ⟨by omega, by omega, by omega⟩))
        · skip
          have b292 : IV x274 (-1) (-1) := ⟨by omega, by omega⟩
          have v293 : CQ (gV σ 23 0 152).toInt.toNat τ271 := v_CQ.call (fun q => by omega) (fun k => f273.1 23 0 k (by simp) (by decide))
          have b294 : IV (gV τ271 22 0 16) 2 2 := ⟨by omega, by omega⟩
          show MW p l e _ s m args below meth c _ 4 G 0 0 139 [some (.ref (G.1 22 0)), some (.int y1), none, none] [.int x274] τ271
          refine m_goto (tgt := 143) C dX12_takePerson_139 (by decide) ?_
          refine m_istore_n (L1 := [some (.ref (G.1 22 0)), some (.int y1), none, some (.int x274)]) C dX12_takePerson_143 rfl (by decide) rfl rfl ?_
          exact J144 τ271 y1 x274 i272 g276 b_y1 (iv_wk b292 (by decide)) v278 v293 v279 (by omega) (Or.inr (by have qd := per_7 T N st cc i (by omega) (by omega) (by omega) (by omega) (by omega) (by omega) (by omega) (by omega); exact ⟨by omega, by omega, by omega⟩))
        · skip
          have v295 : CQ (gV σ 23 0 152).toInt.toNat τ271 := v_CQ.call (fun q => by omega) (fun k => f273.1 23 0 k (by simp) (by decide))
          have v296 : CuM T N (tE T N (tE T N (tE T N (tE T N (tE T N i))))) τ271 := ⟨h277_4, h277_5⟩
          clear h277_4
          have b297 : IV (gV τ271 22 0 16) 0 0 := ⟨by omega, by omega⟩
          show MW p l e _ s m args below meth c _ 4 G 0 0 139 [some (.ref (G.1 22 0)), some (.int y1), none, none] [.int x274] τ271
          refine m_goto (tgt := 143) C dX12_takePerson_139 (by decide) ?_
          refine m_istore_n (L1 := [some (.ref (G.1 22 0)), some (.int y1), none, some (.int x274)]) C dX12_takePerson_143 rfl (by decide) rfl rfl ?_
          exact J144 τ271 y1 x274 i272 g276 b_y1 b275 v278 v295 v279 (by omega) (Or.inl ⟨by omega, by omega, by omega, by omega, by omega, trivial, v296⟩)
    · skip
      have b298 : IV (gV τ 22 0 16) 1 3 := ⟨by omega, by omega⟩
      refine m_aload_n C dX12_takePerson_115 rfl rfl ?_
      refine g_22_16 C q4_132 dX12_takePerson_116 ?_
      refine m_eqs (w := (gV τ 22 0 16)) rfl ?_
      refine m_if_ne (tgt := 142) C dX12_takePerson_119 (by decide) (fun c299 => ?_) (fun c299 => ?_)
      · have f300 : (gV τ 22 0 16).toInt ≠ 0 := by
          have q : _ := c299
          simp only [ti_nle, ti_nlt, ti_le, ti_lt, ti_eq, ti_ne, Classical.not_not, kt_0] at q
          omega
        refine m_iconst (v := 0) C dX12_takePerson_142 (by decide) ?_
        refine m_istore_n (L1 := [some (.ref (G.1 22 0)), some (.int y1), none, some (.int 0)]) C dX12_takePerson_143 rfl (by decide) rfl rfl ?_
        exact J144 τ y1 0 iτ fτ b_y1 (iv_wk kc_0 (by decide)) v_CP v_CQ v_T (by omega) (Or.inr (by exact ⟨by omega, by omega, by omega⟩))
      · exfalso
        have q : _ := c299
        simp only [ti_nle, ti_nlt, ti_le, ti_lt, ti_eq, ti_ne, Classical.not_not, kt_0] at q
        have q1 := b298; have q2 := kc_0; omega
  have J87 : ∀ (τ : Sg) (y1 : Int32), Inv τ → Fr MS_X12_takePersonE AS_X12_takePersonE σ τ → IV y1 0 6 → (CP (gV σ 23 0 152).toInt τ) → (TpM τ T N) → (((gV τ 22 0 11).toInt ≤ (gV τ 22 0 6).toInt ∧ (gV τ 23 0 150).toInt = st ∧ (gV τ 23 0 152).toInt = cc ∧ (gV τ 23 0 188).toInt = (gV σ 23 0 188).toInt ∧ cc ≤ 6 ∧ y1.toInt = cc)) → ((((gV τ 22 0 16).toInt = 0 ∧ tQ T N (tE T N i) ≠ 0 ∧ (tK T N (tE T N (tE T N i)) = 2 ∧ 1 ≤ tV T (tE T N (tE T N i)) ∧ tV T (tE T N (tE T N i)) ≤ 20) ∧ True ∧ CuM T N (tE T N (tE T N (tE T N i))) τ) ∨ ((1 ≤ (gV τ 22 0 16).toInt ∧ (gV τ 22 0 16).toInt ≤ 3) ∧ perF T N st cc i = (gV τ 22 0 16).toInt ∧ ((gV τ 22 0 12).toInt = perP T N st cc i ∧ 0 ≤ (gV τ 22 0 12).toInt ∧ (gV τ 22 0 12).toInt ≤ 400)))) → MW p l e { frames := 3, cells := 0, slots := 0, locals := 69 } s m args below meth c (MQ below (QP G (PV fun τ => Inv τ ∧ Fr MS_X12_takePersonE AS_X12_takePersonE σ τ ∧ ((perF T N st cc i ≠ 0 ∧ ((gV τ 22 0 16).toInt = perF T N st cc i ∧ 1 ≤ (gV τ 22 0 16).toInt ∧ (gV τ 22 0 16).toInt ≤ 3) ∧ ((gV τ 22 0 12).toInt = perP T N st cc i ∧ 0 ≤ (gV τ 22 0 12).toInt ∧ (gV τ 22 0 12).toInt ≤ 400) ∧ ((gV τ 23 0 152).toInt = cc ∨ (gV τ 23 0 152).toInt = cc + 1) ∧ ((gV τ 23 0 150).toInt = (gV σ 23 0 150).toInt ∧ (gV τ 23 0 188).toInt = (gV σ 23 0 188).toInt) ∧ (gV τ 22 0 11).toInt ≤ (gV τ 22 0 6).toInt) ∨ (perF T N st cc i = 0 ∧ (gV τ 22 0 16).toInt = 0 ∧ (gV τ 23 0 152).toInt = cc + 1 ∧ ((gV τ 22 0 12).toInt = (tS T (tE T N (tE T N (tE T N (tE T N (tE T N (tE T N i)))))) : Int) ∧ (tK T N (tE T N (tE T N (tE T N (tE T N (tE T N (tE T N i)))))) ≠ 4 → (gV τ 22 0 11).toInt = (tE T N (tE T N (tE T N (tE T N (tE T N (tE T N (tE T N i)))))) : Int)) ∧ (gV τ 22 0 13).toInt = (tK T N (tE T N (tE T N (tE T N (tE T N (tE T N (tE T N i)))))) + 4) % 5 ∧ 0 ≤ tK T N (tE T N (tE T N (tE T N (tE T N (tE T N (tE T N i)))))) ∧ tK T N (tE T N (tE T N (tE T N (tE T N (tE T N (tE T N i)))))) ≤ 4 ∧ (tK T N (tE T N (tE T N (tE T N (tE T N (tE T N (tE T N i)))))) = 2 → (gV τ 22 0 15).toInt = tV T (tE T N (tE T N (tE T N (tE T N (tE T N (tE T N i))))))) ∧ (gV τ 22 0 12).toInt ≤ 400) ∧ ((gV τ 23 0 150).toInt = (gV σ 23 0 150).toInt ∧ (gV τ 23 0 188).toInt = (gV σ 23 0 188).toInt) ∧ (gV τ 22 0 11).toInt ≤ (gV τ 22 0 6).toInt ∧ Pb τ ∧ LW T N (tE T N (tE T N (tE T N (tE T N (tE T N (tE T N i)))))) τ.2.2.1)))) args s 0 0 (aG G)) 4 G 0 0 87 [some (.ref (G.1 22 0)), some (.int y1), none, none] [] τ := by
    intro τ y1 iτ fτ b_y1 v_CP v_T n302 nR
    have u303 : IV (gV τ 22 0 11) 0 400 := iτ.1 22 0 11
    have u304 : IV (gV τ 22 0 6) 0 400 := iτ.1 22 0 6
    have u305 : IV (gV τ 23 0 152) 0 7 := iτ.1 23 0 152
    have u306 : IV (gV τ 23 0 188) 0 4 := iτ.1 23 0 188
    have q307 : (gV τ 22 0 6).toInt = (N : Int) := v_T.1
    have q308 := v_T.2.1
    rcases nR with ⟨n0_, n1_, n2_, nT_, nc_⟩ | ⟨n0_, n1_, n2_⟩
    · skip
      have b309 : IV (gV τ 22 0 16) 0 0 := ⟨by omega, by omega⟩
      refine m_aload_n C dX12_takePerson_87 rfl rfl ?_
      refine g_22_0 C q4_116 dX12_takePerson_88 ?_
      refine m_sipush (v := 167) C dX12_takePerson_91 (by decide) ?_
      refine m_iload_n C dX12_takePerson_94 rfl rfl ?_
      refine m_iadd C dX12_takePerson_95 ?_
      refine m_topi (fun x310 ex310 => ?_)
      have tx310 : x310.toInt = 167 + y1.toInt := by rw [ex310, ti_addv kc_167 b_y1 (by decide), kt_167]
      have b311 : IV x310 167 173 := by rw [ex310]; exact iv_add kc_167 b_y1 (by decide)
      refine m_aload_n C dX12_takePerson_96 rfl rfl ?_
      refine g_22_16 C q4_132 dX12_takePerson_97 ?_
      refine m_eqs (w := (gV τ 22 0 16)) rfl ?_
      refine m_if_ne (tgt := 113) C dX12_takePerson_100 (by decide) (fun c312 => ?_) (fun c312 => ?_)
      · exfalso
        have q : _ := c312
        simp only [ti_nle, ti_nlt, ti_le, ti_lt, ti_eq, ti_ne, Classical.not_not, kt_0] at q
        have q1 := b309; have q2 := kc_0; omega
      · have f314 : (gV τ 22 0 16).toInt = 0 := by
          have q : _ := c312
          simp only [ti_nle, ti_nlt, ti_le, ti_lt, ti_eq, ti_ne, Classical.not_not, kt_0] at q
          omega
        refine m_aload_n C dX12_takePerson_103 rfl rfl ?_
        refine m_iconst (v := 1) C dX12_takePerson_104 (by decide) ?_
        refine m_iconst (v := 4) C dX12_takePerson_105 (by decide) ?_
        refine m_iconst (v := 1) C dX12_takePerson_106 (by decide) ?_
        have q315 := kt_1
        have q316 := kt_4
        have q317 := kt_1
        refine m_callV (n := 3) (ci := 11) (st := [.int x310, .ref (G.1 23 0)]) C (c_X12_takeNumberE l G τ T N (tE T N (tE T N (tE T N i))) (1) (4) (1) iτ v_T nc_.1 (by omega)) (by decide) (by decide) rfl rfl rfl q5_7 q5_4 q5_6 q0_30 q1_7 (by decide +kernel) rfl (by decide) (by decide) rfl (Nat.le_of_ble_eq_true rfl) dX12_takePerson_107 ?_
        rintro _ τ318 ⟨x321, rfl, i319, f320, b322, h324⟩
        have g323 : Fr MS_X12_takePersonE AS_X12_takePersonE σ τ318 := Fr.call (fτ) f320 (by decide)
        have v325 : CP (gV σ 23 0 152).toInt τ318 := v_CP.call (fun k => f320.1 23 0 k (by simp) (by decide))
        have v326 : TpM τ318 T N := v_T.fr f320 (by decide) (by decide) (by simp) (by decide)
        have u327 : IV (gV τ318 22 0 11) 0 400 := i319.1 22 0 11
        have a328 : gV τ318 22 0 6 = (gV τ 22 0 6) := (show gV τ318 22 0 6 = (gV τ 22 0 6) from (f320.1 22 0 (6) (by decide) (by decide)).trans rfl)
        have q329 : (gV τ318 22 0 6).toInt = (gV τ 22 0 6).toInt := congrArg Int32.toInt a328
        have a330 : gV τ318 23 0 150 = (gV τ 23 0 150) := (show gV τ318 23 0 150 = (gV τ 23 0 150) from (f320.1 23 0 (150) (by decide) (by decide)).trans rfl)
        have q331 : (gV τ318 23 0 150).toInt = (gV τ 23 0 150).toInt := congrArg Int32.toInt a330
        have a332 : gV τ318 23 0 152 = (gV τ 23 0 152) := (show gV τ318 23 0 152 = (gV τ 23 0 152) from (f320.1 23 0 (152) (by decide) (by decide)).trans rfl)
        have q333 : (gV τ318 23 0 152).toInt = (gV τ 23 0 152).toInt := congrArg Int32.toInt a332
        have a334 : gV τ318 23 0 188 = (gV τ 23 0 188) := (show gV τ318 23 0 188 = (gV τ 23 0 188) from (f320.1 23 0 (188) (by decide) (by decide)).trans rfl)
        have q335 : (gV τ318 23 0 188).toInt = (gV τ 23 0 188).toInt := congrArg Int32.toInt a334
        rcases h324 with ⟨h324_0, h324_1, h324_2, h324_3, h324_4⟩ | ⟨h324_0, h324_1, h324_2, h324_3, h324_4, h324_5, h324_6⟩ | ⟨h324_0, h324_1, h324_2, h324_3, h324_4, h324_5, h324_6⟩
        · skip
          have b336 : IV x321 (-1) (-1) := ⟨by omega, by omega⟩
          have b337 : IV (gV τ318 22 0 16) 1 1 := ⟨by omega, by omega⟩
          show MW p l e _ s m args below meth c _ 4 G 0 0 110 [some (.ref (G.1 22 0)), some (.int y1), none, none] [.int x321, .int x310, .ref (G.1 23 0)] τ318
          refine m_goto (tgt := 114) C dX12_takePerson_110 (by decide) ?_
          refine as_23 C b311 (by decide) rfl dX12_takePerson_114 ?_
          refine m_tops (fun τ338 eτ338 => ?_)
          have i339 : Inv τ338 := eτ338 ▸ Inv.putRo i319 (by omega)
          have f340 : Fr MS_X12_takePersonE AS_X12_takePersonE σ τ338 := eτ338 ▸ Fr.put (g323) (Or.inr (by decide))
          have v341 : CP (gV σ 23 0 152).toInt τ338 := v325.put eτ338 (Or.inr (fun q hq => by omega))
          have v342 : TpM τ338 T N := v326.put eτ338 (Or.inl (by decide)) (by decide)
          have a343 : gV τ338 22 0 6 = (gV τ 22 0 6) := (show gV τ338 22 0 6 = (gV τ 22 0 6) from gV_put eτ338 a328)
          have q344 : (gV τ338 22 0 6).toInt = (gV τ 22 0 6).toInt := congrArg Int32.toInt a343
          have a345 : gV τ338 23 0 150 = (gV τ 23 0 150) := (show gV τ338 23 0 150 = (gV τ 23 0 150) from (gV_putn eτ338 (Or.inr (Or.inr (nat_ne b311 (by decide))))).trans a330)
          have q346 : (gV τ338 23 0 150).toInt = (gV τ 23 0 150).toInt := congrArg Int32.toInt a345
          have a347 : gV τ338 23 0 152 = (gV τ 23 0 152) := (show gV τ338 23 0 152 = (gV τ 23 0 152) from (gV_putn eτ338 (Or.inr (Or.inr (nat_ne b311 (by decide))))).trans a332)
          have q348 : (gV τ338 23 0 152).toInt = (gV τ 23 0 152).toInt := congrArg Int32.toInt a347
          have a349 : gV τ338 23 0 188 = (gV τ 23 0 188) := (show gV τ338 23 0 188 = (gV τ 23 0 188) from (gV_putn eτ338 (Or.inr (Or.inr (nat_ne b311 (by decide))))).trans a334)
          have q350 : (gV τ338 23 0 188).toInt = (gV τ 23 0 188).toInt := congrArg Int32.toInt a349
          have a351 : gV τ338 22 0 11 = (gV τ318 22 0 11) := (show gV τ338 22 0 11 = (gV τ318 22 0 11) from gV_put eτ338 rfl)
          have q352 : (gV τ338 22 0 11).toInt = (gV τ318 22 0 11).toInt := congrArg Int32.toInt a351
          have a353 : gV τ338 22 0 12 = (gV τ318 22 0 12) := (show gV τ338 22 0 12 = (gV τ318 22 0 12) from gV_put eτ338 rfl)
          have q354 : (gV τ338 22 0 12).toInt = (gV τ318 22 0 12).toInt := congrArg Int32.toInt a353
          have a355 : gV τ338 22 0 16 = (gV τ318 22 0 16) := (show gV τ338 22 0 16 = (gV τ318 22 0 16) from gV_put eτ338 rfl)
          have q356 : (gV τ338 22 0 16).toInt = (gV τ318 22 0 16).toInt := congrArg Int32.toInt a355
          have v357 : CQ (gV σ 23 0 152).toInt.toNat τ338 := by
            intro q
            have q1 : gV τ338 23 0 (x310.toInt.toNat) = x321 := (show gV τ338 23 0 (x310.toInt.toNat) = x321 from gV_put eτ338 (gV_self _ _ _ _ _))
            rw [show 167 + (gV σ 23 0 152).toInt.toNat = (x310.toInt.toNat) by omega, q1]
            omega
          exact J115 τ338 y1 i339 f340 b_y1 v341 v357 v342 (by omega) (Or.inr (by have qd := per_4 T N st cc i (by omega) (by omega) (by omega) (by omega) (by omega); exact ⟨by omega, by omega, by omega⟩))
        · skip
          have b358 : IV x321 (-1) (-1) := ⟨by omega, by omega⟩
          have b359 : IV (gV τ318 22 0 16) 2 2 := ⟨by omega, by omega⟩
          show MW p l e _ s m args below meth c _ 4 G 0 0 110 [some (.ref (G.1 22 0)), some (.int y1), none, none] [.int x321, .int x310, .ref (G.1 23 0)] τ318
          refine m_goto (tgt := 114) C dX12_takePerson_110 (by decide) ?_
          refine as_23 C b311 (by decide) rfl dX12_takePerson_114 ?_
          refine m_tops (fun τ360 eτ360 => ?_)
          have i361 : Inv τ360 := eτ360 ▸ Inv.putRo i319 (by omega)
          have f362 : Fr MS_X12_takePersonE AS_X12_takePersonE σ τ360 := eτ360 ▸ Fr.put (g323) (Or.inr (by decide))
          have v363 : CP (gV σ 23 0 152).toInt τ360 := v325.put eτ360 (Or.inr (fun q hq => by omega))
          have v364 : TpM τ360 T N := v326.put eτ360 (Or.inl (by decide)) (by decide)
          have a365 : gV τ360 22 0 6 = (gV τ 22 0 6) := (show gV τ360 22 0 6 = (gV τ 22 0 6) from gV_put eτ360 a328)
          have q366 : (gV τ360 22 0 6).toInt = (gV τ 22 0 6).toInt := congrArg Int32.toInt a365
          have a367 : gV τ360 23 0 150 = (gV τ 23 0 150) := (show gV τ360 23 0 150 = (gV τ 23 0 150) from (gV_putn eτ360 (Or.inr (Or.inr (nat_ne b311 (by decide))))).trans a330)
          have q368 : (gV τ360 23 0 150).toInt = (gV τ 23 0 150).toInt := congrArg Int32.toInt a367
          have a369 : gV τ360 23 0 152 = (gV τ 23 0 152) := (show gV τ360 23 0 152 = (gV τ 23 0 152) from (gV_putn eτ360 (Or.inr (Or.inr (nat_ne b311 (by decide))))).trans a332)
          have q370 : (gV τ360 23 0 152).toInt = (gV τ 23 0 152).toInt := congrArg Int32.toInt a369
          have a371 : gV τ360 23 0 188 = (gV τ 23 0 188) := (show gV τ360 23 0 188 = (gV τ 23 0 188) from (gV_putn eτ360 (Or.inr (Or.inr (nat_ne b311 (by decide))))).trans a334)
          have q372 : (gV τ360 23 0 188).toInt = (gV τ 23 0 188).toInt := congrArg Int32.toInt a371
          have a373 : gV τ360 22 0 11 = (gV τ318 22 0 11) := (show gV τ360 22 0 11 = (gV τ318 22 0 11) from gV_put eτ360 rfl)
          have q374 : (gV τ360 22 0 11).toInt = (gV τ318 22 0 11).toInt := congrArg Int32.toInt a373
          have a375 : gV τ360 22 0 12 = (gV τ318 22 0 12) := (show gV τ360 22 0 12 = (gV τ318 22 0 12) from gV_put eτ360 rfl)
          have q376 : (gV τ360 22 0 12).toInt = (gV τ318 22 0 12).toInt := congrArg Int32.toInt a375
          have a377 : gV τ360 22 0 16 = (gV τ318 22 0 16) := (show gV τ360 22 0 16 = (gV τ318 22 0 16) from gV_put eτ360 rfl)
          have q378 : (gV τ360 22 0 16).toInt = (gV τ318 22 0 16).toInt := congrArg Int32.toInt a377
          have v379 : CQ (gV σ 23 0 152).toInt.toNat τ360 := by
            intro q
            have q1 : gV τ360 23 0 (x310.toInt.toNat) = x321 := (show gV τ360 23 0 (x310.toInt.toNat) = x321 from gV_put eτ360 (gV_self _ _ _ _ _))
            rw [show 167 + (gV σ 23 0 152).toInt.toNat = (x310.toInt.toNat) by omega, q1]
            omega
          exact J115 τ360 y1 i361 f362 b_y1 v363 v379 v364 (by omega) (Or.inr (by have qd := per_5 T N st cc i (by omega) (by omega) (by omega) (by omega) (by omega) (by omega); exact ⟨by omega, by omega, by omega⟩))
        · skip
          have q380 : 1 ≤ tV T (tE T N (tE T N (tE T N i))) ∧ tV T (tE T N (tE T N (tE T N i))) ≤ 4 := by omega
          clear h324_1
          have v381 : CuM T N (tE T N (tE T N (tE T N (tE T N i)))) τ318 := ⟨h324_4, h324_5⟩
          clear h324_4
          have b382 : IV (gV τ318 22 0 16) 0 0 := ⟨by omega, by omega⟩
          show MW p l e _ s m args below meth c _ 4 G 0 0 110 [some (.ref (G.1 22 0)), some (.int y1), none, none] [.int x321, .int x310, .ref (G.1 23 0)] τ318
          refine m_goto (tgt := 114) C dX12_takePerson_110 (by decide) ?_
          refine as_23 C b311 (by decide) rfl dX12_takePerson_114 ?_
          refine m_tops (fun τ383 eτ383 => ?_)
          have i384 : Inv τ383 := eτ383 ▸ Inv.putRo i319 (by omega)
          have f385 : Fr MS_X12_takePersonE AS_X12_takePersonE σ τ383 := eτ383 ▸ Fr.put (g323) (Or.inr (by decide))
          have v386 : CP (gV σ 23 0 152).toInt τ383 := v325.put eτ383 (Or.inr (fun q hq => by omega))
          have v387 : TpM τ383 T N := v326.put eτ383 (Or.inl (by decide)) (by decide)
          have v388 : LW T N (tE T N (tE T N (tE T N (tE T N i)))) τ383.2.2.1 := by rw [eτ383]; exact h324_6
          have v389 : CuM T N (tE T N (tE T N (tE T N (tE T N i)))) τ383 := CuM.put v381 eτ383 (Or.inl (by decide))
          have a390 : gV τ383 22 0 6 = (gV τ 22 0 6) := (show gV τ383 22 0 6 = (gV τ 22 0 6) from gV_put eτ383 a328)
          have q391 : (gV τ383 22 0 6).toInt = (gV τ 22 0 6).toInt := congrArg Int32.toInt a390
          have a392 : gV τ383 23 0 150 = (gV τ 23 0 150) := (show gV τ383 23 0 150 = (gV τ 23 0 150) from (gV_putn eτ383 (Or.inr (Or.inr (nat_ne b311 (by decide))))).trans a330)
          have q393 : (gV τ383 23 0 150).toInt = (gV τ 23 0 150).toInt := congrArg Int32.toInt a392
          have a394 : gV τ383 23 0 152 = (gV τ 23 0 152) := (show gV τ383 23 0 152 = (gV τ 23 0 152) from (gV_putn eτ383 (Or.inr (Or.inr (nat_ne b311 (by decide))))).trans a332)
          have q395 : (gV τ383 23 0 152).toInt = (gV τ 23 0 152).toInt := congrArg Int32.toInt a394
          have a396 : gV τ383 23 0 188 = (gV τ 23 0 188) := (show gV τ383 23 0 188 = (gV τ 23 0 188) from (gV_putn eτ383 (Or.inr (Or.inr (nat_ne b311 (by decide))))).trans a334)
          have q397 : (gV τ383 23 0 188).toInt = (gV τ 23 0 188).toInt := congrArg Int32.toInt a396
          have a398 : gV τ383 22 0 11 = (gV τ318 22 0 11) := (show gV τ383 22 0 11 = (gV τ318 22 0 11) from gV_put eτ383 rfl)
          have q399 : (gV τ383 22 0 11).toInt = (gV τ318 22 0 11).toInt := congrArg Int32.toInt a398
          have a400 : gV τ383 22 0 12 = (gV τ318 22 0 12) := (show gV τ383 22 0 12 = (gV τ318 22 0 12) from gV_put eτ383 rfl)
          have q401 : (gV τ383 22 0 12).toInt = (gV τ318 22 0 12).toInt := congrArg Int32.toInt a400
          have a402 : gV τ383 22 0 16 = (gV τ318 22 0 16) := (show gV τ383 22 0 16 = (gV τ318 22 0 16) from gV_put eτ383 rfl)
          have q403 : (gV τ383 22 0 16).toInt = (gV τ318 22 0 16).toInt := congrArg Int32.toInt a402
          have v404 : CQ (gV σ 23 0 152).toInt.toNat τ383 := by
            intro q
            have q1 : gV τ383 23 0 (x310.toInt.toNat) = x321 := (show gV τ383 23 0 (x310.toInt.toNat) = x321 from gV_put eτ383 (gV_self _ _ _ _ _))
            rw [show 167 + (gV σ 23 0 152).toInt.toNat = (x310.toInt.toNat) by omega, q1]
            omega
          exact J115 τ383 y1 i384 f385 b_y1 v386 v404 v387 (by omega) (Or.inl ⟨by omega, by omega, by omega, by omega, trivial, v389⟩)
    · skip
      have b405 : IV (gV τ 22 0 16) 1 3 := ⟨by omega, by omega⟩
      refine m_aload_n C dX12_takePerson_87 rfl rfl ?_
      refine g_22_0 C q4_116 dX12_takePerson_88 ?_
      refine m_sipush (v := 167) C dX12_takePerson_91 (by decide) ?_
      refine m_iload_n C dX12_takePerson_94 rfl rfl ?_
      refine m_iadd C dX12_takePerson_95 ?_
      refine m_topi (fun x406 ex406 => ?_)
      have tx406 : x406.toInt = 167 + y1.toInt := by rw [ex406, ti_addv kc_167 b_y1 (by decide), kt_167]
      have b407 : IV x406 167 173 := by rw [ex406]; exact iv_add kc_167 b_y1 (by decide)
      refine m_aload_n C dX12_takePerson_96 rfl rfl ?_
      refine g_22_16 C q4_132 dX12_takePerson_97 ?_
      refine m_eqs (w := (gV τ 22 0 16)) rfl ?_
      refine m_if_ne (tgt := 113) C dX12_takePerson_100 (by decide) (fun c408 => ?_) (fun c408 => ?_)
      · have f409 : (gV τ 22 0 16).toInt ≠ 0 := by
          have q : _ := c408
          simp only [ti_nle, ti_nlt, ti_le, ti_lt, ti_eq, ti_ne, Classical.not_not, kt_0] at q
          omega
        refine m_iconst (v := 0) C dX12_takePerson_113 (by decide) ?_
        refine as_23 C b407 (by decide) rfl dX12_takePerson_114 ?_
        refine m_tops (fun τ410 eτ410 => ?_)
        have i411 : Inv τ410 := eτ410 ▸ Inv.putR0 iτ (by omega) kt_0
        have f412 : Fr MS_X12_takePersonE AS_X12_takePersonE σ τ410 := eτ410 ▸ Fr.put (fτ) (Or.inr (by decide))
        have v413 : CP (gV σ 23 0 152).toInt τ410 := v_CP.put eτ410 (Or.inr (fun q hq => by omega))
        have v414 : TpM τ410 T N := v_T.put eτ410 (Or.inl (by decide)) (by decide)
        have v415 : τ410.2.2.1 = τ.2.2.1 := by rw [eτ410]; rfl
        have a416 : gV τ410 22 0 11 = (gV τ 22 0 11) := (show gV τ410 22 0 11 = (gV τ 22 0 11) from gV_put eτ410 rfl)
        have q417 : (gV τ410 22 0 11).toInt = (gV τ 22 0 11).toInt := congrArg Int32.toInt a416
        have a418 : gV τ410 22 0 12 = (gV τ 22 0 12) := (show gV τ410 22 0 12 = (gV τ 22 0 12) from gV_put eτ410 rfl)
        have q419 : (gV τ410 22 0 12).toInt = (gV τ 22 0 12).toInt := congrArg Int32.toInt a418
        have a420 : gV τ410 22 0 16 = (gV τ 22 0 16) := (show gV τ410 22 0 16 = (gV τ 22 0 16) from gV_put eτ410 rfl)
        have q421 : (gV τ410 22 0 16).toInt = (gV τ 22 0 16).toInt := congrArg Int32.toInt a420
        have a422 : gV τ410 22 0 6 = (gV τ 22 0 6) := (show gV τ410 22 0 6 = (gV τ 22 0 6) from gV_put eτ410 rfl)
        have q423 : (gV τ410 22 0 6).toInt = (gV τ 22 0 6).toInt := congrArg Int32.toInt a422
        have a424 : gV τ410 23 0 150 = (gV τ 23 0 150) := (show gV τ410 23 0 150 = (gV τ 23 0 150) from (gV_putn eτ410 (Or.inr (Or.inr (nat_ne b407 (by decide))))).trans rfl)
        have q425 : (gV τ410 23 0 150).toInt = (gV τ 23 0 150).toInt := congrArg Int32.toInt a424
        have a426 : gV τ410 23 0 152 = (gV τ 23 0 152) := (show gV τ410 23 0 152 = (gV τ 23 0 152) from (gV_putn eτ410 (Or.inr (Or.inr (nat_ne b407 (by decide))))).trans rfl)
        have q427 : (gV τ410 23 0 152).toInt = (gV τ 23 0 152).toInt := congrArg Int32.toInt a426
        have a428 : gV τ410 23 0 188 = (gV τ 23 0 188) := (show gV τ410 23 0 188 = (gV τ 23 0 188) from (gV_putn eτ410 (Or.inr (Or.inr (nat_ne b407 (by decide))))).trans rfl)
        have q429 : (gV τ410 23 0 188).toInt = (gV τ 23 0 188).toInt := congrArg Int32.toInt a428
        have v430 : CQ (gV σ 23 0 152).toInt.toNat τ410 := by
          intro q
          have q1 : gV τ410 23 0 (x406.toInt.toNat) = 0 := (show gV τ410 23 0 (x406.toInt.toNat) = 0 from gV_put eτ410 (gV_self _ _ _ _ _))
          rw [show 167 + (gV σ 23 0 152).toInt.toNat = (x406.toInt.toNat) by omega, q1]
          omega
        exact J115 τ410 y1 i411 f412 b_y1 v413 v430 v414 (by omega) (Or.inr (by exact ⟨by omega, by omega, by omega⟩))
      · exfalso
        have q : _ := c408
        simp only [ti_nle, ti_nlt, ti_le, ti_lt, ti_eq, ti_ne, Classical.not_not, kt_0] at q
        have q1 := b405; have q2 := kc_0; omega
  have J43 : ∀ (τ : Sg) (y1 : Int32) (z0 : Int32), Inv τ → Fr MS_X12_takePersonE AS_X12_takePersonE σ τ → IV y1 0 6 → IV z0 (-1) 5 → (CP (gV σ 23 0 152).toInt τ) → (TpM τ T N) → ((CuM T N (tE T N i) τ ∧ (gV τ 22 0 11).toInt ≤ (gV τ 22 0 6).toInt ∧ (gV τ 22 0 16).toInt = 0 ∧ (gV τ 23 0 150).toInt = st ∧ (gV τ 23 0 152).toInt = cc ∧ (gV τ 23 0 188).toInt = (gV σ 23 0 188).toInt ∧ cc ≤ 6 ∧ y1.toInt = cc)) → (((z0.toInt = -1 ∧ tQ T N (tE T N i) = 0) ∨ (1 ≤ z0.toInt ∧ z0.toInt ≤ 5 ∧ z0.toInt = tQ T N (tE T N i)))) → MW p l e { frames := 3, cells := 0, slots := 0, locals := 69 } s m args below meth c (MQ below (QP G (PV fun τ => Inv τ ∧ Fr MS_X12_takePersonE AS_X12_takePersonE σ τ ∧ ((perF T N st cc i ≠ 0 ∧ ((gV τ 22 0 16).toInt = perF T N st cc i ∧ 1 ≤ (gV τ 22 0 16).toInt ∧ (gV τ 22 0 16).toInt ≤ 3) ∧ ((gV τ 22 0 12).toInt = perP T N st cc i ∧ 0 ≤ (gV τ 22 0 12).toInt ∧ (gV τ 22 0 12).toInt ≤ 400) ∧ ((gV τ 23 0 152).toInt = cc ∨ (gV τ 23 0 152).toInt = cc + 1) ∧ ((gV τ 23 0 150).toInt = (gV σ 23 0 150).toInt ∧ (gV τ 23 0 188).toInt = (gV σ 23 0 188).toInt) ∧ (gV τ 22 0 11).toInt ≤ (gV τ 22 0 6).toInt) ∨ (perF T N st cc i = 0 ∧ (gV τ 22 0 16).toInt = 0 ∧ (gV τ 23 0 152).toInt = cc + 1 ∧ ((gV τ 22 0 12).toInt = (tS T (tE T N (tE T N (tE T N (tE T N (tE T N (tE T N i)))))) : Int) ∧ (tK T N (tE T N (tE T N (tE T N (tE T N (tE T N (tE T N i)))))) ≠ 4 → (gV τ 22 0 11).toInt = (tE T N (tE T N (tE T N (tE T N (tE T N (tE T N (tE T N i)))))) : Int)) ∧ (gV τ 22 0 13).toInt = (tK T N (tE T N (tE T N (tE T N (tE T N (tE T N (tE T N i)))))) + 4) % 5 ∧ 0 ≤ tK T N (tE T N (tE T N (tE T N (tE T N (tE T N (tE T N i)))))) ∧ tK T N (tE T N (tE T N (tE T N (tE T N (tE T N (tE T N i)))))) ≤ 4 ∧ (tK T N (tE T N (tE T N (tE T N (tE T N (tE T N (tE T N i)))))) = 2 → (gV τ 22 0 15).toInt = tV T (tE T N (tE T N (tE T N (tE T N (tE T N (tE T N i))))))) ∧ (gV τ 22 0 12).toInt ≤ 400) ∧ ((gV τ 23 0 150).toInt = (gV σ 23 0 150).toInt ∧ (gV τ 23 0 188).toInt = (gV σ 23 0 188).toInt) ∧ (gV τ 22 0 11).toInt ≤ (gV τ 22 0 6).toInt ∧ Pb τ ∧ LW T N (tE T N (tE T N (tE T N (tE T N (tE T N (tE T N i)))))) τ.2.2.1)))) args s 0 0 (aG G)) 4 G 0 0 43 [some (.ref (G.1 22 0)), some (.int y1), none, none] [.int z0] τ := by
    intro τ y1 z0 iτ fτ b_y1 b_z0 v_CP v_T nA nB
    have u432 : IV (gV τ 22 0 11) 0 400 := iτ.1 22 0 11
    have u433 : IV (gV τ 22 0 6) 0 400 := iτ.1 22 0 6
    have u434 : IV (gV τ 23 0 152) 0 7 := iτ.1 23 0 152
    have u435 : IV (gV τ 23 0 188) 0 4 := iτ.1 23 0 188
    have q436 : (gV τ 22 0 6).toInt = (N : Int) := v_T.1
    have q437 := v_T.2.1
    obtain ⟨nc_, na_, nf_, ns_, nw_, nx_, ny_, nz_⟩ := nA
    rcases nB with ⟨nq_, nr_⟩ | ⟨nq_, nr_, nt_⟩
    · have b438 : IV z0 (-1) (-1) := ⟨by omega, by omega⟩
      have b439 : IV (gV τ 22 0 16) 0 0 := ⟨by omega, by omega⟩
      refine m_istore_n (L1 := [some (.ref (G.1 22 0)), some (.int y1), some (.int z0), none]) C dX12_takePerson_43 rfl (by decide) rfl rfl ?_
      refine m_iload_n C dX12_takePerson_44 rfl rfl ?_
      refine m_if_ge (tgt := 54) C dX12_takePerson_45 (by decide) (fun c440 => ?_) (fun c440 => ?_)
      · exfalso
        have q : _ := c440
        simp only [ti_nle, ti_nlt, ti_le, ti_lt, ti_eq, ti_ne, Classical.not_not, kt_0] at q
        have q1 := b438; have q2 := kc_0; omega
      · have f442 : z0.toInt < 0 := by
          have q : _ := c440
          simp only [ti_nle, ti_nlt, ti_le, ti_lt, ti_eq, ti_ne, Classical.not_not, kt_0] at q
          omega
        have q443 : (gV τ 22 0 12).toInt = (tS T (tE T N i) : Int) ∧ (gV τ 22 0 12).toInt ≤ 400 := ⟨nc_.1.1, nc_.1.2.2.2.2.2.2⟩
        refine m_aload_n C dX12_takePerson_48 rfl rfl ?_
        refine m_iconst (v := 1) C dX12_takePerson_49 (by decide) ?_
        refine p_22_16 C q4_132 dX12_takePerson_50 ?_
        refine m_tops (fun τ444 eτ444 => ?_)
        have i445 : Inv τ444 := eτ444 ▸ Inv.putF iτ (by decide) rfl
        have f446 : Fr MS_X12_takePersonE AS_X12_takePersonE σ τ444 := eτ444 ▸ Fr.put (fτ) (Or.inl (by decide))
        have v447 : CP (gV σ 23 0 152).toInt τ444 := v_CP.put eτ444 (Or.inl (by decide))
        have v448 : TpM τ444 T N := v_T.put eτ444 (Or.inr (by decide)) (by decide)
        have v449 : τ444.2.2.1 = τ.2.2.1 := by rw [eτ444]; rfl
        have v450 : CuM T N (tE T N i) τ444 := CuM.put nc_ eτ444 (Or.inr (by decide))
        have a451 : gV τ444 22 0 11 = (gV τ 22 0 11) := (show gV τ444 22 0 11 = (gV τ 22 0 11) from gV_put eτ444 rfl)
        have q452 : (gV τ444 22 0 11).toInt = (gV τ 22 0 11).toInt := congrArg Int32.toInt a451
        have a453 : gV τ444 22 0 12 = (gV τ 22 0 12) := (show gV τ444 22 0 12 = (gV τ 22 0 12) from gV_put eτ444 rfl)
        have q454 : (gV τ444 22 0 12).toInt = (gV τ 22 0 12).toInt := congrArg Int32.toInt a453
        have a455 : gV τ444 22 0 6 = (gV τ 22 0 6) := (show gV τ444 22 0 6 = (gV τ 22 0 6) from gV_put eτ444 rfl)
        have q456 : (gV τ444 22 0 6).toInt = (gV τ 22 0 6).toInt := congrArg Int32.toInt a455
        have a457 : gV τ444 23 0 150 = (gV τ 23 0 150) := (show gV τ444 23 0 150 = (gV τ 23 0 150) from gV_put eτ444 rfl)
        have q458 : (gV τ444 23 0 150).toInt = (gV τ 23 0 150).toInt := congrArg Int32.toInt a457
        have a459 : gV τ444 23 0 152 = (gV τ 23 0 152) := (show gV τ444 23 0 152 = (gV τ 23 0 152) from gV_put eτ444 rfl)
        have q460 : (gV τ444 23 0 152).toInt = (gV τ 23 0 152).toInt := congrArg Int32.toInt a459
        have a461 : gV τ444 23 0 188 = (gV τ 23 0 188) := (show gV τ444 23 0 188 = (gV τ 23 0 188) from gV_put eτ444 rfl)
        have q462 : (gV τ444 23 0 188).toInt = (gV τ 23 0 188).toInt := congrArg Int32.toInt a461
        have a463 : gV τ444 22 0 16 = 1 := (show gV τ444 22 0 16 = 1 from gV_put eτ444 (gV_self _ _ _ _ _))
        have q464 : (gV τ444 22 0 16).toInt = 1 := (congrArg Int32.toInt a463).trans kt_1
        exact m_vret C hr hlk (by decide) (by decide) dX12_takePerson_53 ⟨rfl, i445, f446, (by have qd := per_1 T N st cc i (by omega) (by omega); exact Or.inl ⟨by omega, by omega, by omega, by omega, by omega, by omega⟩)⟩
    · have b465 : IV z0 1 5 := ⟨by omega, by omega⟩
      have b466 : IV (gV τ 22 0 16) 0 0 := ⟨by omega, by omega⟩
      have nk_ := tQ_k (T := T) (N := N) (i := (tE T N i)) (by omega)
      refine m_istore_n (L1 := [some (.ref (G.1 22 0)), some (.int y1), some (.int z0), none]) C dX12_takePerson_43 rfl (by decide) rfl rfl ?_
      refine m_iload_n C dX12_takePerson_44 rfl rfl ?_
      refine m_if_ge (tgt := 54) C dX12_takePerson_45 (by decide) (fun c467 => ?_) (fun c467 => ?_)
      · have f468 : 0 ≤ z0.toInt := by
          have q : _ := c467
          simp only [ti_nle, ti_nlt, ti_le, ti_lt, ti_eq, ti_ne, Classical.not_not, kt_0] at q
          omega
        refine m_aload_n C dX12_takePerson_54 rfl rfl ?_
        refine m_callV (n := 0) (ci := 11) (st := []) C (c_X12_nextE l G τ T N (tE T N (tE T N i))  iτ v_T (by have qc := nc_.1; omega)) (by decide) (by decide) rfl rfl rfl q4_231 q4_228 q4_230 q0_28 q1_7 (by decide +kernel) rfl (by decide) (by decide) rfl (Nat.le_of_ble_eq_true rfl) dX12_takePerson_55 ?_
        rintro _ τ469 ⟨rfl, i470, f471, h475⟩
        have g474 : Fr MS_X12_takePersonE AS_X12_takePersonE σ τ469 := Fr.call (fτ) f471 (by decide)
        have v476 : CP (gV σ 23 0 152).toInt τ469 := v_CP.call (fun k => f471.1 23 0 k (by simp) (by decide))
        have v477 : TpM τ469 T N := v_T.fr f471 (by decide) (by decide) (by simp) (by decide)
        obtain ⟨h478, h480, v479⟩ := h475
        have v481 : CuM T N (tE T N (tE T N i)) τ469 := ⟨h478, h480⟩
        clear h478
        have u482 : IV (gV τ469 22 0 11) 0 400 := i470.1 22 0 11
        have a483 : gV τ469 22 0 16 = (gV τ 22 0 16) := (show gV τ469 22 0 16 = (gV τ 22 0 16) from (f471.1 22 0 (16) (by decide) (by decide)).trans rfl)
        have q484 : (gV τ469 22 0 16).toInt = (gV τ 22 0 16).toInt := congrArg Int32.toInt a483
        have a485 : gV τ469 22 0 6 = (gV τ 22 0 6) := (show gV τ469 22 0 6 = (gV τ 22 0 6) from (f471.1 22 0 (6) (by decide) (by decide)).trans rfl)
        have q486 : (gV τ469 22 0 6).toInt = (gV τ 22 0 6).toInt := congrArg Int32.toInt a485
        have a487 : gV τ469 23 0 150 = (gV τ 23 0 150) := (show gV τ469 23 0 150 = (gV τ 23 0 150) from (f471.1 23 0 (150) (by decide) (by decide)).trans rfl)
        have q488 : (gV τ469 23 0 150).toInt = (gV τ 23 0 150).toInt := congrArg Int32.toInt a487
        have a489 : gV τ469 23 0 152 = (gV τ 23 0 152) := (show gV τ469 23 0 152 = (gV τ 23 0 152) from (f471.1 23 0 (152) (by decide) (by decide)).trans rfl)
        have q490 : (gV τ469 23 0 152).toInt = (gV τ 23 0 152).toInt := congrArg Int32.toInt a489
        have a491 : gV τ469 23 0 188 = (gV τ 23 0 188) := (show gV τ469 23 0 188 = (gV τ 23 0 188) from (f471.1 23 0 (188) (by decide) (by decide)).trans rfl)
        have q492 : (gV τ469 23 0 188).toInt = (gV τ 23 0 188).toInt := congrArg Int32.toInt a491
        show MW p l e _ s m args below meth c _ 4 G 0 0 58 [some (.ref (G.1 22 0)), some (.int y1), some (.int z0), none] [] τ469
        refine m_aload_n C dX12_takePerson_58 rfl rfl ?_
        refine g_22_0 C q4_116 dX12_takePerson_59 ?_
        refine m_sipush (v := 153) C dX12_takePerson_62 (by decide) ?_
        refine m_iload_n C dX12_takePerson_65 rfl rfl ?_
        refine m_iadd C dX12_takePerson_66 ?_
        refine m_topi (fun x493 ex493 => ?_)
        have tx493 : x493.toInt = 153 + y1.toInt := by rw [ex493, ti_addv kc_153 b_y1 (by decide), kt_153]
        have b494 : IV x493 153 159 := by rw [ex493]; exact iv_add kc_153 b_y1 (by decide)
        refine m_iload_n C dX12_takePerson_67 rfl rfl ?_
        refine as_23 C b494 (by decide) rfl dX12_takePerson_68 ?_
        refine m_tops (fun τ495 eτ495 => ?_)
        have i496 : Inv τ495 := eτ495 ▸ Inv.putRo i470 (by omega)
        have f497 : Fr MS_X12_takePersonE AS_X12_takePersonE σ τ495 := eτ495 ▸ Fr.put (g474) (Or.inr (by decide))
        have v498 : CP (gV σ 23 0 152).toInt τ495 := v476.put eτ495 (Or.inr (fun q hq => by omega))
        have v499 : TpM τ495 T N := v477.put eτ495 (Or.inl (by decide)) (by decide)
        have v500 : LW T N (tE T N (tE T N i)) τ495.2.2.1 := by rw [eτ495]; exact v479
        have v501 : CuM T N (tE T N (tE T N i)) τ495 := CuM.put v481 eτ495 (Or.inl (by decide))
        refine m_aload_n C dX12_takePerson_69 rfl rfl ?_
        refine g_22_0 C q4_116 dX12_takePerson_70 ?_
        refine m_sipush (v := 160) C dX12_takePerson_73 (by decide) ?_
        refine m_iload_n C dX12_takePerson_76 rfl rfl ?_
        refine m_iadd C dX12_takePerson_77 ?_
        refine m_topi (fun x502 ex502 => ?_)
        have tx502 : x502.toInt = 160 + y1.toInt := by rw [ex502, ti_addv kc_160 b_y1 (by decide), kt_160]
        have b503 : IV x502 160 166 := by rw [ex502]; exact iv_add kc_160 b_y1 (by decide)
        refine m_aload_n C dX12_takePerson_78 rfl rfl ?_
        refine m_iconst (v := 1) C dX12_takePerson_79 (by decide) ?_
        refine m_bipush (v := 20) C dX12_takePerson_80 (by decide) ?_
        refine m_iconst (v := 1) C dX12_takePerson_82 (by decide) ?_
        have a504 : gV τ495 22 0 16 = (gV τ 22 0 16) := (show gV τ495 22 0 16 = (gV τ 22 0 16) from gV_put eτ495 a483)
        have q505 : (gV τ495 22 0 16).toInt = (gV τ 22 0 16).toInt := congrArg Int32.toInt a504
        have a506 : gV τ495 22 0 6 = (gV τ 22 0 6) := (show gV τ495 22 0 6 = (gV τ 22 0 6) from gV_put eτ495 a485)
        have q507 : (gV τ495 22 0 6).toInt = (gV τ 22 0 6).toInt := congrArg Int32.toInt a506
        have a508 : gV τ495 23 0 150 = (gV τ 23 0 150) := (show gV τ495 23 0 150 = (gV τ 23 0 150) from (gV_putn eτ495 (Or.inr (Or.inr (nat_ne b494 (by decide))))).trans a487)
        have q509 : (gV τ495 23 0 150).toInt = (gV τ 23 0 150).toInt := congrArg Int32.toInt a508
        have a510 : gV τ495 23 0 152 = (gV τ 23 0 152) := (show gV τ495 23 0 152 = (gV τ 23 0 152) from (gV_putn eτ495 (Or.inr (Or.inr (nat_ne b494 (by decide))))).trans a489)
        have q511 : (gV τ495 23 0 152).toInt = (gV τ 23 0 152).toInt := congrArg Int32.toInt a510
        have a512 : gV τ495 23 0 188 = (gV τ 23 0 188) := (show gV τ495 23 0 188 = (gV τ 23 0 188) from (gV_putn eτ495 (Or.inr (Or.inr (nat_ne b494 (by decide))))).trans a491)
        have q513 : (gV τ495 23 0 188).toInt = (gV τ 23 0 188).toInt := congrArg Int32.toInt a512
        have a514 : gV τ495 22 0 11 = (gV τ469 22 0 11) := (show gV τ495 22 0 11 = (gV τ469 22 0 11) from gV_put eτ495 rfl)
        have q515 : (gV τ495 22 0 11).toInt = (gV τ469 22 0 11).toInt := congrArg Int32.toInt a514
        have a516 : gV τ495 22 0 12 = (gV τ469 22 0 12) := (show gV τ495 22 0 12 = (gV τ469 22 0 12) from gV_put eτ495 rfl)
        have q517 : (gV τ495 22 0 12).toInt = (gV τ469 22 0 12).toInt := congrArg Int32.toInt a516
        have q518 := kt_1
        have q519 := kt_20
        have q520 := kt_1
        refine m_callV (n := 3) (ci := 11) (st := [.int x502, .ref (G.1 23 0)]) C (c_X12_takeNumberE l G τ495 T N (tE T N (tE T N i)) (1) (20) (1) i496 v499 v501.1 (by omega)) (by decide) (by decide) rfl rfl rfl q5_7 q5_4 q5_6 q0_30 q1_7 (by decide +kernel) rfl (by decide) (by decide) rfl (Nat.le_of_ble_eq_true rfl) dX12_takePerson_83 ?_
        rintro _ τ521 ⟨x524, rfl, i522, f523, b525, h527⟩
        have g526 : Fr MS_X12_takePersonE AS_X12_takePersonE σ τ521 := Fr.call (f497) f523 (by decide)
        have v528 : CP (gV σ 23 0 152).toInt τ521 := v498.call (fun k => f523.1 23 0 k (by simp) (by decide))
        have v529 : TpM τ521 T N := v499.fr f523 (by decide) (by decide) (by simp) (by decide)
        have u530 : IV (gV τ521 22 0 11) 0 400 := i522.1 22 0 11
        have a531 : gV τ521 22 0 6 = (gV τ 22 0 6) := (show gV τ521 22 0 6 = (gV τ 22 0 6) from (f523.1 22 0 (6) (by decide) (by decide)).trans a506)
        have q532 : (gV τ521 22 0 6).toInt = (gV τ 22 0 6).toInt := congrArg Int32.toInt a531
        have a533 : gV τ521 23 0 150 = (gV τ 23 0 150) := (show gV τ521 23 0 150 = (gV τ 23 0 150) from (f523.1 23 0 (150) (by decide) (by decide)).trans a508)
        have q534 : (gV τ521 23 0 150).toInt = (gV τ 23 0 150).toInt := congrArg Int32.toInt a533
        have a535 : gV τ521 23 0 152 = (gV τ 23 0 152) := (show gV τ521 23 0 152 = (gV τ 23 0 152) from (f523.1 23 0 (152) (by decide) (by decide)).trans a510)
        have q536 : (gV τ521 23 0 152).toInt = (gV τ 23 0 152).toInt := congrArg Int32.toInt a535
        have a537 : gV τ521 23 0 188 = (gV τ 23 0 188) := (show gV τ521 23 0 188 = (gV τ 23 0 188) from (f523.1 23 0 (188) (by decide) (by decide)).trans a512)
        have q538 : (gV τ521 23 0 188).toInt = (gV τ 23 0 188).toInt := congrArg Int32.toInt a537
        rcases h527 with ⟨h527_0, h527_1, h527_2, h527_3, h527_4⟩ | ⟨h527_0, h527_1, h527_2, h527_3, h527_4, h527_5, h527_6⟩ | ⟨h527_0, h527_1, h527_2, h527_3, h527_4, h527_5, h527_6⟩
        · skip
          have b539 : IV x524 (-1) (-1) := ⟨by omega, by omega⟩
          have b540 : IV (gV τ521 22 0 16) 1 1 := ⟨by omega, by omega⟩
          show MW p l e _ s m args below meth c _ 4 G 0 0 86 [some (.ref (G.1 22 0)), some (.int y1), some (.int z0), none] [.int x524, .int x502, .ref (G.1 23 0)] τ521
          refine as_23 C b503 (by decide) rfl dX12_takePerson_86 ?_
          refine m_tops (fun τ541 eτ541 => ?_)
          have i542 : Inv τ541 := eτ541 ▸ Inv.putRo i522 (by omega)
          have f543 : Fr MS_X12_takePersonE AS_X12_takePersonE σ τ541 := eτ541 ▸ Fr.put (g526) (Or.inr (by decide))
          have v544 : CP (gV σ 23 0 152).toInt τ541 := v528.put eτ541 (Or.inr (fun q hq => by omega))
          have v545 : TpM τ541 T N := v529.put eτ541 (Or.inl (by decide)) (by decide)
          refine m_sub (L1 := [some (.ref (G.1 22 0)), some (.int y1), none, none]) ⟨rfl, ⟨rfl, trivial⟩⟩ ?_
          have a546 : gV τ541 22 0 6 = (gV τ 22 0 6) := (show gV τ541 22 0 6 = (gV τ 22 0 6) from gV_put eτ541 a531)
          have q547 : (gV τ541 22 0 6).toInt = (gV τ 22 0 6).toInt := congrArg Int32.toInt a546
          have a548 : gV τ541 23 0 150 = (gV τ 23 0 150) := (show gV τ541 23 0 150 = (gV τ 23 0 150) from (gV_putn eτ541 (Or.inr (Or.inr (nat_ne b503 (by decide))))).trans a533)
          have q549 : (gV τ541 23 0 150).toInt = (gV τ 23 0 150).toInt := congrArg Int32.toInt a548
          have a550 : gV τ541 23 0 152 = (gV τ 23 0 152) := (show gV τ541 23 0 152 = (gV τ 23 0 152) from (gV_putn eτ541 (Or.inr (Or.inr (nat_ne b503 (by decide))))).trans a535)
          have q551 : (gV τ541 23 0 152).toInt = (gV τ 23 0 152).toInt := congrArg Int32.toInt a550
          have a552 : gV τ541 23 0 188 = (gV τ 23 0 188) := (show gV τ541 23 0 188 = (gV τ 23 0 188) from (gV_putn eτ541 (Or.inr (Or.inr (nat_ne b503 (by decide))))).trans a537)
          have q553 : (gV τ541 23 0 188).toInt = (gV τ 23 0 188).toInt := congrArg Int32.toInt a552
          have a554 : gV τ541 22 0 11 = (gV τ521 22 0 11) := (show gV τ541 22 0 11 = (gV τ521 22 0 11) from gV_put eτ541 rfl)
          have q555 : (gV τ541 22 0 11).toInt = (gV τ521 22 0 11).toInt := congrArg Int32.toInt a554
          have a556 : gV τ541 22 0 12 = (gV τ521 22 0 12) := (show gV τ541 22 0 12 = (gV τ521 22 0 12) from gV_put eτ541 rfl)
          have q557 : (gV τ541 22 0 12).toInt = (gV τ521 22 0 12).toInt := congrArg Int32.toInt a556
          have a558 : gV τ541 22 0 16 = (gV τ521 22 0 16) := (show gV τ541 22 0 16 = (gV τ521 22 0 16) from gV_put eτ541 rfl)
          have q559 : (gV τ541 22 0 16).toInt = (gV τ521 22 0 16).toInt := congrArg Int32.toInt a558
          exact J87 τ541 y1 i542 f543 b_y1 v544 v545 (by omega) (Or.inr (by have qd := per_2 T N st cc i (by omega) (by omega) (by omega); exact ⟨by omega, by omega, by omega⟩))
        · skip
          have b560 : IV x524 (-1) (-1) := ⟨by omega, by omega⟩
          have b561 : IV (gV τ521 22 0 16) 2 2 := ⟨by omega, by omega⟩
          show MW p l e _ s m args below meth c _ 4 G 0 0 86 [some (.ref (G.1 22 0)), some (.int y1), some (.int z0), none] [.int x524, .int x502, .ref (G.1 23 0)] τ521
          refine as_23 C b503 (by decide) rfl dX12_takePerson_86 ?_
          refine m_tops (fun τ562 eτ562 => ?_)
          have i563 : Inv τ562 := eτ562 ▸ Inv.putRo i522 (by omega)
          have f564 : Fr MS_X12_takePersonE AS_X12_takePersonE σ τ562 := eτ562 ▸ Fr.put (g526) (Or.inr (by decide))
          have v565 : CP (gV σ 23 0 152).toInt τ562 := v528.put eτ562 (Or.inr (fun q hq => by omega))
          have v566 : TpM τ562 T N := v529.put eτ562 (Or.inl (by decide)) (by decide)
          refine m_sub (L1 := [some (.ref (G.1 22 0)), some (.int y1), none, none]) ⟨rfl, ⟨rfl, trivial⟩⟩ ?_
          have a567 : gV τ562 22 0 6 = (gV τ 22 0 6) := (show gV τ562 22 0 6 = (gV τ 22 0 6) from gV_put eτ562 a531)
          have q568 : (gV τ562 22 0 6).toInt = (gV τ 22 0 6).toInt := congrArg Int32.toInt a567
          have a569 : gV τ562 23 0 150 = (gV τ 23 0 150) := (show gV τ562 23 0 150 = (gV τ 23 0 150) from (gV_putn eτ562 (Or.inr (Or.inr (nat_ne b503 (by decide))))).trans a533)
          have q570 : (gV τ562 23 0 150).toInt = (gV τ 23 0 150).toInt := congrArg Int32.toInt a569
          have a571 : gV τ562 23 0 152 = (gV τ 23 0 152) := (show gV τ562 23 0 152 = (gV τ 23 0 152) from (gV_putn eτ562 (Or.inr (Or.inr (nat_ne b503 (by decide))))).trans a535)
          have q572 : (gV τ562 23 0 152).toInt = (gV τ 23 0 152).toInt := congrArg Int32.toInt a571
          have a573 : gV τ562 23 0 188 = (gV τ 23 0 188) := (show gV τ562 23 0 188 = (gV τ 23 0 188) from (gV_putn eτ562 (Or.inr (Or.inr (nat_ne b503 (by decide))))).trans a537)
          have q574 : (gV τ562 23 0 188).toInt = (gV τ 23 0 188).toInt := congrArg Int32.toInt a573
          have a575 : gV τ562 22 0 11 = (gV τ521 22 0 11) := (show gV τ562 22 0 11 = (gV τ521 22 0 11) from gV_put eτ562 rfl)
          have q576 : (gV τ562 22 0 11).toInt = (gV τ521 22 0 11).toInt := congrArg Int32.toInt a575
          have a577 : gV τ562 22 0 12 = (gV τ521 22 0 12) := (show gV τ562 22 0 12 = (gV τ521 22 0 12) from gV_put eτ562 rfl)
          have q578 : (gV τ562 22 0 12).toInt = (gV τ521 22 0 12).toInt := congrArg Int32.toInt a577
          have a579 : gV τ562 22 0 16 = (gV τ521 22 0 16) := (show gV τ562 22 0 16 = (gV τ521 22 0 16) from gV_put eτ562 rfl)
          have q580 : (gV τ562 22 0 16).toInt = (gV τ521 22 0 16).toInt := congrArg Int32.toInt a579
          exact J87 τ562 y1 i563 f564 b_y1 v565 v566 (by omega) (Or.inr (by have qd := per_3 T N st cc i (by omega) (by omega) (by omega) (by omega); exact ⟨by omega, by omega, by omega⟩))
        · skip
          have q581 : 1 ≤ tV T (tE T N (tE T N i)) ∧ tV T (tE T N (tE T N i)) ≤ 20 := by omega
          clear h527_1
          have v582 : CuM T N (tE T N (tE T N (tE T N i))) τ521 := ⟨h527_4, h527_5⟩
          clear h527_4
          have b583 : IV (gV τ521 22 0 16) 0 0 := ⟨by omega, by omega⟩
          show MW p l e _ s m args below meth c _ 4 G 0 0 86 [some (.ref (G.1 22 0)), some (.int y1), some (.int z0), none] [.int x524, .int x502, .ref (G.1 23 0)] τ521
          refine as_23 C b503 (by decide) rfl dX12_takePerson_86 ?_
          refine m_tops (fun τ584 eτ584 => ?_)
          have i585 : Inv τ584 := eτ584 ▸ Inv.putRo i522 (by omega)
          have f586 : Fr MS_X12_takePersonE AS_X12_takePersonE σ τ584 := eτ584 ▸ Fr.put (g526) (Or.inr (by decide))
          have v587 : CP (gV σ 23 0 152).toInt τ584 := v528.put eτ584 (Or.inr (fun q hq => by omega))
          have v588 : TpM τ584 T N := v529.put eτ584 (Or.inl (by decide)) (by decide)
          have v589 : LW T N (tE T N (tE T N (tE T N i))) τ584.2.2.1 := by rw [eτ584]; exact h527_6
          have v590 : CuM T N (tE T N (tE T N (tE T N i))) τ584 := CuM.put v582 eτ584 (Or.inl (by decide))
          refine m_sub (L1 := [some (.ref (G.1 22 0)), some (.int y1), none, none]) ⟨rfl, ⟨rfl, trivial⟩⟩ ?_
          have a591 : gV τ584 22 0 6 = (gV τ 22 0 6) := (show gV τ584 22 0 6 = (gV τ 22 0 6) from gV_put eτ584 a531)
          have q592 : (gV τ584 22 0 6).toInt = (gV τ 22 0 6).toInt := congrArg Int32.toInt a591
          have a593 : gV τ584 23 0 150 = (gV τ 23 0 150) := (show gV τ584 23 0 150 = (gV τ 23 0 150) from (gV_putn eτ584 (Or.inr (Or.inr (nat_ne b503 (by decide))))).trans a533)
          have q594 : (gV τ584 23 0 150).toInt = (gV τ 23 0 150).toInt := congrArg Int32.toInt a593
          have a595 : gV τ584 23 0 152 = (gV τ 23 0 152) := (show gV τ584 23 0 152 = (gV τ 23 0 152) from (gV_putn eτ584 (Or.inr (Or.inr (nat_ne b503 (by decide))))).trans a535)
          have q596 : (gV τ584 23 0 152).toInt = (gV τ 23 0 152).toInt := congrArg Int32.toInt a595
          have a597 : gV τ584 23 0 188 = (gV τ 23 0 188) := (show gV τ584 23 0 188 = (gV τ 23 0 188) from (gV_putn eτ584 (Or.inr (Or.inr (nat_ne b503 (by decide))))).trans a537)
          have q598 : (gV τ584 23 0 188).toInt = (gV τ 23 0 188).toInt := congrArg Int32.toInt a597
          have a599 : gV τ584 22 0 11 = (gV τ521 22 0 11) := (show gV τ584 22 0 11 = (gV τ521 22 0 11) from gV_put eτ584 rfl)
          have q600 : (gV τ584 22 0 11).toInt = (gV τ521 22 0 11).toInt := congrArg Int32.toInt a599
          have a601 : gV τ584 22 0 12 = (gV τ521 22 0 12) := (show gV τ584 22 0 12 = (gV τ521 22 0 12) from gV_put eτ584 rfl)
          have q602 : (gV τ584 22 0 12).toInt = (gV τ521 22 0 12).toInt := congrArg Int32.toInt a601
          have a603 : gV τ584 22 0 16 = (gV τ521 22 0 16) := (show gV τ584 22 0 16 = (gV τ521 22 0 16) from gV_put eτ584 rfl)
          have q604 : (gV τ584 22 0 16).toInt = (gV τ521 22 0 16).toInt := congrArg Int32.toInt a603
          exact J87 τ584 y1 i585 f586 b_y1 v587 v588 (by omega) (Or.inl ⟨by omega, by omega, by omega, trivial, v590⟩)
      · exfalso
        have q : _ := c467
        simp only [ti_nle, ti_nlt, ti_le, ti_lt, ti_eq, ti_ne, Classical.not_not, kt_0] at q
        have q1 := b465; have q2 := kc_0; omega
  have u606 : IV (gV σ 22 0 11) 0 400 := hI.1 22 0 11
  have u607 : IV (gV σ 22 0 6) 0 400 := hI.1 22 0 6
  have u608 : IV (gV σ 23 0 152) 0 7 := hI.1 23 0 152
  have u609 : IV (gV σ 23 0 188) 0 4 := hI.1 23 0 188
  have q610 : (gV σ 22 0 6).toInt = (N : Int) := hT.1
  have q611 := hT.2.1
  have b612 : IV (gV σ 22 0 16) 0 0 := ⟨by omega, by omega⟩
  refine m_aload_n C dX12_takePerson_0 rfl rfl ?_
  refine g_22_0 C q4_116 dX12_takePerson_1 ?_
  refine m_sipush (v := 152) C dX12_takePerson_4 (by decide) ?_
  refine al_23 C kc_152 (by decide) kn_152 dX12_takePerson_7 ?_
  refine m_eqs (w := (gV σ 23 0 152)) rfl ?_
  refine m_istore_n (L1 := [some (.ref (G.1 22 0)), some (.int (gV σ 23 0 152)), none, none]) C dX12_takePerson_8 rfl (by decide) rfl rfl ?_
  refine m_iload_n C dX12_takePerson_9 rfl rfl ?_
  refine m_bipush (v := 7) C dX12_takePerson_10 (by decide) ?_
  refine m_icmp_ne (tgt := 21) C dX12_takePerson_12 (by decide) (fun c613 => ?_) (fun c613 => ?_)
  · have f614 : (gV σ 23 0 152).toInt ≠ 7 := by
      have q : _ := c613
      simp only [ti_nle, ti_nlt, ti_le, ti_lt, ti_eq, ti_ne, Classical.not_not, kt_7] at q
      omega
    have b615 : IV (gV σ 23 0 152) 0 6 := ⟨by have q1 := u608; have q2 := kc_7; omega, by have q1 := u608; have q2 := kc_7; omega⟩
    refine m_aload_n C dX12_takePerson_21 rfl rfl ?_
    refine m_callV (n := 0) (ci := 11) (st := []) C (c_X12_nextE l G σ T N (tE T N i)  hI hT (by have qc := hcur.1; omega)) (by decide) (by decide) rfl rfl rfl q4_231 q4_228 q4_230 q0_28 q1_7 (by decide +kernel) rfl (by decide) (by decide) rfl (Nat.le_of_ble_eq_true rfl) dX12_takePerson_22 ?_
    rintro _ τ616 ⟨rfl, i617, f618, h622⟩
    have g621 : Fr MS_X12_takePersonE AS_X12_takePersonE σ τ616 := Fr.call (Fr.rf) f618 (by decide)
    have v623 : CP (gV σ 23 0 152).toInt τ616 := (hPb.cp hI).call (fun k => f618.1 23 0 k (by simp) (by decide))
    have v624 : TpM τ616 T N := hT.fr f618 (by decide) (by decide) (by simp) (by decide)
    obtain ⟨h625, h627, v626⟩ := h622
    have v628 : CuM T N (tE T N i) τ616 := ⟨h625, h627⟩
    clear h625
    have u629 : IV (gV τ616 22 0 11) 0 400 := i617.1 22 0 11
    have a630 : gV τ616 22 0 16 = (gV σ 22 0 16) := (show gV τ616 22 0 16 = (gV σ 22 0 16) from (f618.1 22 0 (16) (by decide) (by decide)).trans rfl)
    have q631 : (gV τ616 22 0 16).toInt = (gV σ 22 0 16).toInt := congrArg Int32.toInt a630
    have a632 : gV τ616 22 0 6 = (gV σ 22 0 6) := (show gV τ616 22 0 6 = (gV σ 22 0 6) from (f618.1 22 0 (6) (by decide) (by decide)).trans rfl)
    have q633 : (gV τ616 22 0 6).toInt = (gV σ 22 0 6).toInt := congrArg Int32.toInt a632
    have a634 : gV τ616 23 0 150 = (gV σ 23 0 150) := (show gV τ616 23 0 150 = (gV σ 23 0 150) from (f618.1 23 0 (150) (by decide) (by decide)).trans rfl)
    have q635 : (gV τ616 23 0 150).toInt = (gV σ 23 0 150).toInt := congrArg Int32.toInt a634
    have a636 : gV τ616 23 0 152 = (gV σ 23 0 152) := (show gV τ616 23 0 152 = (gV σ 23 0 152) from (f618.1 23 0 (152) (by decide) (by decide)).trans rfl)
    have q637 : (gV τ616 23 0 152).toInt = (gV σ 23 0 152).toInt := congrArg Int32.toInt a636
    have a638 : gV τ616 23 0 188 = (gV σ 23 0 188) := (show gV τ616 23 0 188 = (gV σ 23 0 188) from (f618.1 23 0 (188) (by decide) (by decide)).trans rfl)
    have q639 : (gV τ616 23 0 188).toInt = (gV σ 23 0 188).toInt := congrArg Int32.toInt a638
    show MW p l e _ s m args below meth c _ 4 G 0 0 25 [some (.ref (G.1 22 0)), some (.int (gV σ 23 0 152)), none, none] [] τ616
    refine m_aload_n C dX12_takePerson_25 rfl rfl ?_
    refine g_22_13 C q4_129 dX12_takePerson_26 ?_
    refine m_topi (fun x640 ex640 => ?_)
    have q641 : (x640.toInt = 0 ↔ tK T N (tE T N i) = 1) := by have qc := v628.1; rw [ex640]; omega
    have q642 : (x640.toInt = 4 ↔ tK T N (tE T N i) = 0) := by have qc := v628.1; rw [ex640]; omega
    refine m_if_ne (tgt := 42) C dX12_takePerson_29 (by decide) (fun c643 => ?_) (fun c643 => ?_)
    · have f644 : x640.toInt ≠ 0 := by
        have q : _ := c643
        simp only [ti_nle, ti_nlt, ti_le, ti_lt, ti_eq, ti_ne, Classical.not_not, kt_0] at q
        omega
      have q645 : tQ T N (tE T N i) = 0 := by have qd := tQ_def T N (tE T N i); omega
      refine m_iconst (v := (-1)) C dX12_takePerson_42 (by decide) ?_
      exact J43 τ616 (gV σ 23 0 152) (-1) i617 g621 b615 (iv_wk kc_m1 (by decide)) v623 v624 ⟨v628, by omega, by omega, by omega, by omega, by omega, by omega, by omega⟩ (by have q := kt_m1; omega)
    · have f646 : x640.toInt = 0 := by
        have q : _ := c643
        simp only [ti_nle, ti_nlt, ti_le, ti_lt, ti_eq, ti_ne, Classical.not_not, kt_0] at q
        omega
      have b647 : IV x640 0 0 := ⟨by have q1 := (iv_any x640); have q2 := kc_0; omega, by have q1 := (iv_any x640); have q2 := kc_0; omega⟩
      refine m_aload_n C dX12_takePerson_32 rfl rfl ?_
      refine g_22_14 C q4_130 dX12_takePerson_33 ?_
      refine m_topl (fun w648 ew648 => ?_)
      have q649 : tK T N (tE T N i) = 1 := by omega
      have q650 : (w648.toInt = 17494690093 ↔ tW T N (tE T N i) 2 = 1) := by rw [ew648]; exact LW.at2 v626 q649
      have q651 : (w648.toInt = 24416759 ↔ tW T N (tE T N i) 3 = 1) := by rw [ew648]; exact LW.at3 v626 q649
      have q652 : (w648.toInt = 2553 ↔ tW T N (tE T N i) 4 = 1) := by rw [ew648]; exact LW.at4 v626 q649
      have q653 : (w648.toInt = 441803 ↔ tW T N (tE T N i) 5 = 1) := by rw [ew648]; exact LW.at5 v626 q649
      have q654 : (w648.toInt = 77177328 ↔ tW T N (tE T N i) 6 = 1) := by rw [ew648]; exact LW.at6 v626 q649
      refine m_callS (n := 1) (st := []) C (c_X12_sortOfE l G τ616 (w648) i617 ) q5_23 q5_21 q5_22 q1_7 (by decide +kernel) rfl (by decide) (by decide) rfl (Nat.le_of_ble_eq_true rfl) dX12_takePerson_36 ?_
      rintro _ τ655 ⟨x658, rfl, i656, f657, b659, h661⟩
      have g660 : Fr MS_X12_takePersonE AS_X12_takePersonE σ τ655 := Fr.call (g621) f657 (by decide)
      have v662 : CP (gV σ 23 0 152).toInt τ655 := v623.call (fun k => f657.1 23 0 k (by simp) (by decide))
      have v663 : TpM τ655 T N := v624.fr f657 (by decide) (by decide) (by simp) (by decide)
      have v664 : CuM T N (tE T N i) τ655 := CuM.fr v628 f657 (by decide) (by decide)
      have a665 : gV τ655 22 0 16 = (gV σ 22 0 16) := (show gV τ655 22 0 16 = (gV σ 22 0 16) from (f657.1 22 0 (16) (by decide) (by decide)).trans a630)
      have q666 : (gV τ655 22 0 16).toInt = (gV σ 22 0 16).toInt := congrArg Int32.toInt a665
      have a667 : gV τ655 22 0 6 = (gV σ 22 0 6) := (show gV τ655 22 0 6 = (gV σ 22 0 6) from (f657.1 22 0 (6) (by decide) (by decide)).trans a632)
      have q668 : (gV τ655 22 0 6).toInt = (gV σ 22 0 6).toInt := congrArg Int32.toInt a667
      have a669 : gV τ655 23 0 150 = (gV σ 23 0 150) := (show gV τ655 23 0 150 = (gV σ 23 0 150) from (f657.1 23 0 (150) (by decide) (by decide)).trans a634)
      have q670 : (gV τ655 23 0 150).toInt = (gV σ 23 0 150).toInt := congrArg Int32.toInt a669
      have a671 : gV τ655 23 0 152 = (gV σ 23 0 152) := (show gV τ655 23 0 152 = (gV σ 23 0 152) from (f657.1 23 0 (152) (by decide) (by decide)).trans a636)
      have q672 : (gV τ655 23 0 152).toInt = (gV σ 23 0 152).toInt := congrArg Int32.toInt a671
      have a673 : gV τ655 23 0 188 = (gV σ 23 0 188) := (show gV τ655 23 0 188 = (gV σ 23 0 188) from (f657.1 23 0 (188) (by decide) (by decide)).trans a638)
      have q674 : (gV τ655 23 0 188).toInt = (gV σ 23 0 188).toInt := congrArg Int32.toInt a673
      have a675 : gV τ655 22 0 11 = (gV τ616 22 0 11) := (show gV τ655 22 0 11 = (gV τ616 22 0 11) from (f657.1 22 0 (11) (by decide) (by decide)).trans rfl)
      have q676 : (gV τ655 22 0 11).toInt = (gV τ616 22 0 11).toInt := congrArg Int32.toInt a675
      have a677 : gV τ655 22 0 12 = (gV τ616 22 0 12) := (show gV τ655 22 0 12 = (gV τ616 22 0 12) from (f657.1 22 0 (12) (by decide) (by decide)).trans rfl)
      have q678 : (gV τ655 22 0 12).toInt = (gV τ616 22 0 12).toInt := congrArg Int32.toInt a677
      rcases h661 with ⟨h661_0, h661_1⟩ | ⟨h661_0, h661_1⟩ | ⟨h661_0, h661_1⟩ | ⟨h661_0, h661_1⟩ | ⟨h661_0, h661_1⟩ | ⟨h661_0, h661_1, h661_2, h661_3, h661_4, h661_5⟩
      · skip
        have b679 : IV x658 1 1 := ⟨by omega, by omega⟩
        have a680 : tW T N (tE T N i) 2 = 1 := q650.mp h661_1
        have a681 : ¬ tW T N (tE T N i) 3 = 1 := fun h => by have h2 := q651.mpr h; rw [h661_1] at h2; exact absurd h2 (by decide)
        have a682 : ¬ tW T N (tE T N i) 4 = 1 := fun h => by have h2 := q652.mpr h; rw [h661_1] at h2; exact absurd h2 (by decide)
        have a683 : ¬ tW T N (tE T N i) 5 = 1 := fun h => by have h2 := q653.mpr h; rw [h661_1] at h2; exact absurd h2 (by decide)
        have a684 : ¬ tW T N (tE T N i) 6 = 1 := fun h => by have h2 := q654.mpr h; rw [h661_1] at h2; exact absurd h2 (by decide)
        have q685 : tQ T N (tE T N i) = 1 := tQ_a1 q649 a680
        clear a680 a681 a682 a683 a684 q650 q651 q652 q653 q654
        show MW p l e _ s m args below meth c _ 4 G 0 0 39 [some (.ref (G.1 22 0)), some (.int (gV σ 23 0 152)), none, none] [.int x658] τ655
        refine m_goto (tgt := 43) C dX12_takePerson_39 (by decide) ?_
        exact J43 τ655 (gV σ 23 0 152) x658 i656 g660 b615 (iv_wk b679 (by decide)) v662 v663 ⟨v664, by omega, by omega, by omega, by omega, by omega, by omega, by omega⟩ (by omega)
      · skip
        have b686 : IV x658 4 4 := ⟨by omega, by omega⟩
        have a687 : ¬ tW T N (tE T N i) 2 = 1 := fun h => by have h2 := q650.mpr h; rw [h661_1] at h2; exact absurd h2 (by decide)
        have a688 : ¬ tW T N (tE T N i) 3 = 1 := fun h => by have h2 := q651.mpr h; rw [h661_1] at h2; exact absurd h2 (by decide)
        have a689 : ¬ tW T N (tE T N i) 4 = 1 := fun h => by have h2 := q652.mpr h; rw [h661_1] at h2; exact absurd h2 (by decide)
        have a690 : tW T N (tE T N i) 5 = 1 := q653.mp h661_1
        have a691 : ¬ tW T N (tE T N i) 6 = 1 := fun h => by have h2 := q654.mpr h; rw [h661_1] at h2; exact absurd h2 (by decide)
        have q692 : tQ T N (tE T N i) = 4 := tQ_a4 q649 a687 a688 a689 a690
        clear a687 a688 a689 a690 a691 q650 q651 q652 q653 q654
        show MW p l e _ s m args below meth c _ 4 G 0 0 39 [some (.ref (G.1 22 0)), some (.int (gV σ 23 0 152)), none, none] [.int x658] τ655
        refine m_goto (tgt := 43) C dX12_takePerson_39 (by decide) ?_
        exact J43 τ655 (gV σ 23 0 152) x658 i656 g660 b615 (iv_wk b686 (by decide)) v662 v663 ⟨v664, by omega, by omega, by omega, by omega, by omega, by omega, by omega⟩ (by omega)
      · skip
        have b693 : IV x658 2 2 := ⟨by omega, by omega⟩
        have a694 : ¬ tW T N (tE T N i) 2 = 1 := fun h => by have h2 := q650.mpr h; rw [h661_1] at h2; exact absurd h2 (by decide)
        have a695 : tW T N (tE T N i) 3 = 1 := q651.mp h661_1
        have a696 : ¬ tW T N (tE T N i) 4 = 1 := fun h => by have h2 := q652.mpr h; rw [h661_1] at h2; exact absurd h2 (by decide)
        have a697 : ¬ tW T N (tE T N i) 5 = 1 := fun h => by have h2 := q653.mpr h; rw [h661_1] at h2; exact absurd h2 (by decide)
        have a698 : ¬ tW T N (tE T N i) 6 = 1 := fun h => by have h2 := q654.mpr h; rw [h661_1] at h2; exact absurd h2 (by decide)
        have q699 : tQ T N (tE T N i) = 2 := tQ_a2 q649 a694 a695
        clear a694 a695 a696 a697 a698 q650 q651 q652 q653 q654
        show MW p l e _ s m args below meth c _ 4 G 0 0 39 [some (.ref (G.1 22 0)), some (.int (gV σ 23 0 152)), none, none] [.int x658] τ655
        refine m_goto (tgt := 43) C dX12_takePerson_39 (by decide) ?_
        exact J43 τ655 (gV σ 23 0 152) x658 i656 g660 b615 (iv_wk b693 (by decide)) v662 v663 ⟨v664, by omega, by omega, by omega, by omega, by omega, by omega, by omega⟩ (by omega)
      · skip
        have b700 : IV x658 5 5 := ⟨by omega, by omega⟩
        have a701 : ¬ tW T N (tE T N i) 2 = 1 := fun h => by have h2 := q650.mpr h; rw [h661_1] at h2; exact absurd h2 (by decide)
        have a702 : ¬ tW T N (tE T N i) 3 = 1 := fun h => by have h2 := q651.mpr h; rw [h661_1] at h2; exact absurd h2 (by decide)
        have a703 : ¬ tW T N (tE T N i) 4 = 1 := fun h => by have h2 := q652.mpr h; rw [h661_1] at h2; exact absurd h2 (by decide)
        have a704 : ¬ tW T N (tE T N i) 5 = 1 := fun h => by have h2 := q653.mpr h; rw [h661_1] at h2; exact absurd h2 (by decide)
        have a705 : tW T N (tE T N i) 6 = 1 := q654.mp h661_1
        have q706 : tQ T N (tE T N i) = 5 := tQ_a5 q649 a701 a702 a703 a704 a705
        clear a701 a702 a703 a704 a705 q650 q651 q652 q653 q654
        show MW p l e _ s m args below meth c _ 4 G 0 0 39 [some (.ref (G.1 22 0)), some (.int (gV σ 23 0 152)), none, none] [.int x658] τ655
        refine m_goto (tgt := 43) C dX12_takePerson_39 (by decide) ?_
        exact J43 τ655 (gV σ 23 0 152) x658 i656 g660 b615 (iv_wk b700 (by decide)) v662 v663 ⟨v664, by omega, by omega, by omega, by omega, by omega, by omega, by omega⟩ (by omega)
      · skip
        have b707 : IV x658 3 3 := ⟨by omega, by omega⟩
        have a708 : ¬ tW T N (tE T N i) 2 = 1 := fun h => by have h2 := q650.mpr h; rw [h661_1] at h2; exact absurd h2 (by decide)
        have a709 : ¬ tW T N (tE T N i) 3 = 1 := fun h => by have h2 := q651.mpr h; rw [h661_1] at h2; exact absurd h2 (by decide)
        have a710 : tW T N (tE T N i) 4 = 1 := q652.mp h661_1
        have a711 : ¬ tW T N (tE T N i) 5 = 1 := fun h => by have h2 := q653.mpr h; rw [h661_1] at h2; exact absurd h2 (by decide)
        have a712 : ¬ tW T N (tE T N i) 6 = 1 := fun h => by have h2 := q654.mpr h; rw [h661_1] at h2; exact absurd h2 (by decide)
        have q713 : tQ T N (tE T N i) = 3 := tQ_a3 q649 a708 a709 a710
        clear a708 a709 a710 a711 a712 q650 q651 q652 q653 q654
        show MW p l e _ s m args below meth c _ 4 G 0 0 39 [some (.ref (G.1 22 0)), some (.int (gV σ 23 0 152)), none, none] [.int x658] τ655
        refine m_goto (tgt := 43) C dX12_takePerson_39 (by decide) ?_
        exact J43 τ655 (gV σ 23 0 152) x658 i656 g660 b615 (iv_wk b707 (by decide)) v662 v663 ⟨v664, by omega, by omega, by omega, by omega, by omega, by omega, by omega⟩ (by omega)
      · skip
        have b714 : IV x658 (-1) (-1) := ⟨by omega, by omega⟩
        have a715 : ¬ tW T N (tE T N i) 2 = 1 := fun h => h661_1 (q650.mpr h)
        have a716 : ¬ tW T N (tE T N i) 3 = 1 := fun h => h661_3 (q651.mpr h)
        have a717 : ¬ tW T N (tE T N i) 4 = 1 := fun h => h661_5 (q652.mpr h)
        have a718 : ¬ tW T N (tE T N i) 5 = 1 := fun h => h661_2 (q653.mpr h)
        have a719 : ¬ tW T N (tE T N i) 6 = 1 := fun h => h661_4 (q654.mpr h)
        have q720 : tQ T N (tE T N i) = 0 := tQ_a0 q649 a715 a716 a717 a718 a719
        clear a715 a716 a717 a718 a719 q650 q651 q652 q653 q654
        show MW p l e _ s m args below meth c _ 4 G 0 0 39 [some (.ref (G.1 22 0)), some (.int (gV σ 23 0 152)), none, none] [.int x658] τ655
        refine m_goto (tgt := 43) C dX12_takePerson_39 (by decide) ?_
        exact J43 τ655 (gV σ 23 0 152) x658 i656 g660 b615 (iv_wk b714 (by decide)) v662 v663 ⟨v664, by omega, by omega, by omega, by omega, by omega, by omega, by omega⟩ (by omega)
  · have f721 : (gV σ 23 0 152).toInt = 7 := by
      have q : _ := c613
      simp only [ti_nle, ti_nlt, ti_le, ti_lt, ti_eq, ti_ne, Classical.not_not, kt_7] at q
      omega
    have b722 : IV (gV σ 23 0 152) 7 7 := ⟨by have q1 := u608; have q2 := kc_7; omega, by have q1 := u608; have q2 := kc_7; omega⟩
    have q723 : (gV σ 22 0 12).toInt = (tS T i : Int) ∧ (gV σ 22 0 12).toInt ≤ 400 := ⟨hcur.1.1, hcur.1.2.2.2.2.2.2⟩
    refine m_aload_n C dX12_takePerson_15 rfl rfl ?_
    refine m_iconst (v := 3) C dX12_takePerson_16 (by decide) ?_
    refine p_22_16 C q4_132 dX12_takePerson_17 ?_
    refine m_tops (fun τ724 eτ724 => ?_)
    have i725 : Inv τ724 := eτ724 ▸ Inv.putF hI (by decide) rfl
    have f726 : Fr MS_X12_takePersonE AS_X12_takePersonE σ τ724 := eτ724 ▸ Fr.put (Fr.rf) (Or.inl (by decide))
    have v727 : CP (gV σ 23 0 152).toInt τ724 := (hPb.cp hI).put eτ724 (Or.inl (by decide))
    have v728 : TpM τ724 T N := hT.put eτ724 (Or.inr (by decide)) (by decide)
    have v729 : τ724.2.2.1 = σ.2.2.1 := by rw [eτ724]; rfl
    have v730 : CuM T N i τ724 := CuM.put hcur eτ724 (Or.inr (by decide))
    have a731 : gV τ724 22 0 11 = (gV σ 22 0 11) := (show gV τ724 22 0 11 = (gV σ 22 0 11) from gV_put eτ724 rfl)
    have q732 : (gV τ724 22 0 11).toInt = (gV σ 22 0 11).toInt := congrArg Int32.toInt a731
    have a733 : gV τ724 22 0 12 = (gV σ 22 0 12) := (show gV τ724 22 0 12 = (gV σ 22 0 12) from gV_put eτ724 rfl)
    have q734 : (gV τ724 22 0 12).toInt = (gV σ 22 0 12).toInt := congrArg Int32.toInt a733
    have a735 : gV τ724 22 0 6 = (gV σ 22 0 6) := (show gV τ724 22 0 6 = (gV σ 22 0 6) from gV_put eτ724 rfl)
    have q736 : (gV τ724 22 0 6).toInt = (gV σ 22 0 6).toInt := congrArg Int32.toInt a735
    have a737 : gV τ724 23 0 150 = (gV σ 23 0 150) := (show gV τ724 23 0 150 = (gV σ 23 0 150) from gV_put eτ724 rfl)
    have q738 : (gV τ724 23 0 150).toInt = (gV σ 23 0 150).toInt := congrArg Int32.toInt a737
    have a739 : gV τ724 23 0 152 = (gV σ 23 0 152) := (show gV τ724 23 0 152 = (gV σ 23 0 152) from gV_put eτ724 rfl)
    have q740 : (gV τ724 23 0 152).toInt = (gV σ 23 0 152).toInt := congrArg Int32.toInt a739
    have a741 : gV τ724 23 0 188 = (gV σ 23 0 188) := (show gV τ724 23 0 188 = (gV σ 23 0 188) from gV_put eτ724 rfl)
    have q742 : (gV τ724 23 0 188).toInt = (gV σ 23 0 188).toInt := congrArg Int32.toInt a741
    have a743 : gV τ724 22 0 16 = 3 := (show gV τ724 22 0 16 = 3 from gV_put eτ724 (gV_self _ _ _ _ _))
    have q744 : (gV τ724 22 0 16).toInt = 3 := (congrArg Int32.toInt a743).trans kt_3
    exact m_vret C hr hlk (by decide) (by decide) dX12_takePerson_20 ⟨rfl, i725, f726, (by have qd := per_0 T N st cc i (by omega); exact Or.inl ⟨by omega, by omega, by omega, by omega, by omega, by omega⟩)⟩
