abbrev MS_X12_takeStoneE : List (Nat × Nat) := [(22, 11), (22, 12), (22, 13), (22, 15), (22, 16)]
abbrev AS_X12_takeStoneE : List Nat := [23]
set_option maxHeartbeats 4000000 in
set_option maxRecDepth 100000 in
theorem c_X12_takeStoneE (l : Launch) (G : Gt) (σ : Sg) (T : Nat → Int) (N : Nat) (i : Nat) (cc : Int) (hI : Inv σ) (hT : TpM σ T N) (hcur : CuM T N i σ) (hat : (gV σ 22 0 11).toInt ≤ (gV σ 22 0 6).toInt) (htk : tK T N i = 1) (hf0 : (gV σ 22 0 16).toInt = 0) (hPb : Pb σ) (hst : (gV σ 23 0 188).toInt = cc) : Mc l G yX12_takeStone cX12_takeStone 2 none 3 69 0 0 [.ref (G.1 22 0)] σ (PV fun τ => Inv τ ∧ Fr MS_X12_takeStoneE AS_X12_takeStoneE σ τ ∧ ((stoF T N cc i ≠ 0 ∧ ((gV τ 22 0 16).toInt = stoF T N cc i ∧ 1 ≤ (gV τ 22 0 16).toInt ∧ (gV τ 22 0 16).toInt ≤ 3) ∧ ((gV τ 22 0 12).toInt = stoP T N cc i ∧ 0 ≤ (gV τ 22 0 12).toInt ∧ (gV τ 22 0 12).toInt ≤ 400) ∧ ((gV τ 23 0 188).toInt = cc ∨ (gV τ 23 0 188).toInt = cc + 1) ∧ ((gV τ 23 0 150).toInt = (gV σ 23 0 150).toInt ∧ (gV τ 23 0 152).toInt = (gV σ 23 0 152).toInt) ∧ (gV τ 22 0 11).toInt ≤ (gV τ 22 0 6).toInt ∧ Pb τ) ∨ (stoF T N cc i = 0 ∧ (gV τ 22 0 16).toInt = 0 ∧ (gV τ 23 0 188).toInt = cc + 1 ∧ ((gV τ 22 0 12).toInt = (tS T (tE T N (tE T N (tE T N (tE T N i)))) : Int) ∧ (tK T N (tE T N (tE T N (tE T N (tE T N i)))) ≠ 4 → (gV τ 22 0 11).toInt = (tE T N (tE T N (tE T N (tE T N (tE T N i)))) : Int)) ∧ (gV τ 22 0 13).toInt = (tK T N (tE T N (tE T N (tE T N (tE T N i)))) + 4) % 5 ∧ 0 ≤ tK T N (tE T N (tE T N (tE T N (tE T N i)))) ∧ tK T N (tE T N (tE T N (tE T N (tE T N i)))) ≤ 4 ∧ (tK T N (tE T N (tE T N (tE T N (tE T N i)))) = 2 → (gV τ 22 0 15).toInt = tV T (tE T N (tE T N (tE T N (tE T N i))))) ∧ (gV τ 22 0 12).toInt ≤ 400) ∧ ((gV τ 23 0 150).toInt = (gV σ 23 0 150).toInt ∧ (gV τ 23 0 152).toInt = (gV σ 23 0 152).toInt) ∧ (gV τ 22 0 11).toInt ≤ (gV τ 22 0 6).toInt ∧ Pb τ ∧ LW T N (tE T N (tE T N (tE T N (tE T N i)))) τ.2.2.1))) := by
  refine Mc.of (L0 := [some (.ref (G.1 22 0)), none]) (by decide) (Nat.le_of_ble_eq_true rfl) rfl ?_
  intro p e s m args below meth c C hr hlk
  have C : Cx p s m args c cX12_takeStone 2 "LeanTowerModel" := C
  have k0 : (0 : Int32).toInt = 0 := by decide
  have k1 : (1 : Int32).toInt = 1 := by decide
  have u1 : IV (gV σ 22 0 11) 0 400 := hI.1 22 0 11
  have u2 : IV (gV σ 22 0 6) 0 400 := hI.1 22 0 6
  have u3 : IV (gV σ 23 0 152) 0 7 := hI.1 23 0 152
  have u4 : IV (gV σ 23 0 188) 0 4 := hI.1 23 0 188
  have q5 : (gV σ 22 0 6).toInt = (N : Int) := hT.1
  have q6 := hT.2.1
  have b7 : IV (gV σ 22 0 16) 0 0 := ⟨by omega, by omega⟩
  refine m_aload_n C dX12_takeStone_0 rfl rfl ?_
  refine g_22_0 C q4_116 dX12_takeStone_1 ?_
  refine m_sipush (v := 188) C dX12_takeStone_4 (by decide) ?_
  refine al_23 C kc_188 (by decide) kn_188 dX12_takeStone_7 ?_
  refine m_eqs (w := (gV σ 23 0 188)) rfl ?_
  refine m_istore_n (L1 := [some (.ref (G.1 22 0)), some (.int (gV σ 23 0 188))]) C dX12_takeStone_8 rfl (by decide) rfl rfl ?_
  refine m_iload_n C dX12_takeStone_9 rfl rfl ?_
  refine m_iconst (v := 4) C dX12_takeStone_10 (by decide) ?_
  refine m_icmp_ne (tgt := 20) C dX12_takeStone_11 (by decide) (fun c8 => ?_) (fun c8 => ?_)
  · have f9 : (gV σ 23 0 188).toInt ≠ 4 := by
      have q : _ := c8
      simp only [ti_nle, ti_nlt, ti_le, ti_lt, ti_eq, ti_ne, Classical.not_not, kt_4] at q
      omega
    have b10 : IV (gV σ 23 0 188) 0 3 := ⟨by have q1 := u4; have q2 := kc_4; omega, by have q1 := u4; have q2 := kc_4; omega⟩
    refine m_aload_n C dX12_takeStone_20 rfl rfl ?_
    refine m_callV (n := 0) (ci := 11) (st := []) C (c_X12_nextE l G σ T N (tE T N i)  hI hT (by have qc := hcur.1; omega)) (by decide) (by decide) rfl rfl rfl q4_231 q4_228 q4_230 q0_28 q1_7 (by decide +kernel) rfl (by decide) (by decide) rfl (Nat.le_of_ble_eq_true rfl) dX12_takeStone_21 ?_
    rintro _ τ11 ⟨rfl, i12, f13, h17⟩
    have g16 : Fr MS_X12_takeStoneE AS_X12_takeStoneE σ τ11 := Fr.call (Fr.rf) f13 (by decide)
    have v18 : Pb τ11 := hPb.call (fun k => f13.1 23 0 k (by simp) (by decide))
    have v19 : TpM τ11 T N := hT.fr f13 (by decide) (by decide) (by simp) (by decide)
    obtain ⟨h20, h22, v21⟩ := h17
    have v23 : CuM T N (tE T N i) τ11 := ⟨h20, h22⟩
    clear h20
    have u24 : IV (gV τ11 22 0 11) 0 400 := i12.1 22 0 11
    have q25 : (gV τ11 22 0 16).toInt = (gV σ 22 0 16).toInt := congrArg Int32.toInt (show (gV τ11 22 0 16) = (gV σ 22 0 16) from (show gV τ11 22 0 16 = (gV σ 22 0 16) from (f13.1 22 0 (16) (by decide) (by decide)).trans rfl))
    have q26 : (gV τ11 22 0 6).toInt = (gV σ 22 0 6).toInt := congrArg Int32.toInt (show (gV τ11 22 0 6) = (gV σ 22 0 6) from (show gV τ11 22 0 6 = (gV σ 22 0 6) from (f13.1 22 0 (6) (by decide) (by decide)).trans rfl))
    have q27 : (gV τ11 23 0 150).toInt = (gV σ 23 0 150).toInt := congrArg Int32.toInt (show (gV τ11 23 0 150) = (gV σ 23 0 150) from (show gV τ11 23 0 150 = (gV σ 23 0 150) from (f13.1 23 0 (150) (by decide) (by decide)).trans rfl))
    have q28 : (gV τ11 23 0 152).toInt = (gV σ 23 0 152).toInt := congrArg Int32.toInt (show (gV τ11 23 0 152) = (gV σ 23 0 152) from (show gV τ11 23 0 152 = (gV σ 23 0 152) from (f13.1 23 0 (152) (by decide) (by decide)).trans rfl))
    have q29 : (gV τ11 23 0 188).toInt = (gV σ 23 0 188).toInt := congrArg Int32.toInt (show (gV τ11 23 0 188) = (gV σ 23 0 188) from (show gV τ11 23 0 188 = (gV σ 23 0 188) from (f13.1 23 0 (188) (by decide) (by decide)).trans rfl))
    show MW p l e _ s m args below meth c _ 2 G 0 0 24 [some (.ref (G.1 22 0)), some (.int (gV σ 23 0 188))] [] τ11
    refine m_aload_n C dX12_takeStone_24 rfl rfl ?_
    refine g_22_0 C q4_116 dX12_takeStone_25 ?_
    refine m_sipush (v := 189) C dX12_takeStone_28 (by decide) ?_
    refine m_iload_n C dX12_takeStone_31 rfl rfl ?_
    refine m_iadd C dX12_takeStone_32 ?_
    refine m_topi (fun x30 ex30 => ?_)
    have tx30 : x30.toInt = 189 + (gV σ 23 0 188).toInt := by rw [ex30, ti_addv kc_189 b10 (by decide), kt_189]
    have b31 : IV x30 189 192 := by rw [ex30]; exact iv_add kc_189 b10 (by decide)
    refine m_aload_n C dX12_takeStone_33 rfl rfl ?_
    refine m_iconst (v := 1) C dX12_takeStone_34 (by decide) ?_
    refine m_bipush (v := 20) C dX12_takeStone_35 (by decide) ?_
    refine m_iconst (v := 1) C dX12_takeStone_37 (by decide) ?_
    have q32 := kt_1
    have q33 := kt_20
    have q34 := kt_1
    refine m_callV (n := 3) (ci := 11) (st := [.int x30, .ref (G.1 23 0)]) C (c_X12_takeNumberE l G τ11 T N (tE T N i) (1) (20) (1) i12 v19 v23.1 (by omega)) (by decide) (by decide) rfl rfl rfl q5_7 q5_4 q5_6 q0_30 q1_7 (by decide +kernel) rfl (by decide) (by decide) rfl (Nat.le_of_ble_eq_true rfl) dX12_takeStone_38 ?_
    rintro _ τ35 ⟨x38, rfl, i36, f37, b39, h41⟩
    have g40 : Fr MS_X12_takeStoneE AS_X12_takeStoneE σ τ35 := Fr.call (g16) f37 (by decide)
    have v42 : Pb τ35 := v18.call (fun k => f37.1 23 0 k (by simp) (by decide))
    have v43 : TpM τ35 T N := v19.fr f37 (by decide) (by decide) (by simp) (by decide)
    have u44 : IV (gV τ35 22 0 11) 0 400 := i36.1 22 0 11
    have q45 : (gV τ35 22 0 6).toInt = (gV σ 22 0 6).toInt := congrArg Int32.toInt (show (gV τ35 22 0 6) = (gV σ 22 0 6) from (show gV τ35 22 0 6 = (gV σ 22 0 6) from (f37.1 22 0 (6) (by decide) (by decide)).trans (show gV τ11 22 0 6 = (gV σ 22 0 6) from (f13.1 22 0 (6) (by decide) (by decide)).trans rfl)))
    have q46 : (gV τ35 23 0 150).toInt = (gV σ 23 0 150).toInt := congrArg Int32.toInt (show (gV τ35 23 0 150) = (gV σ 23 0 150) from (show gV τ35 23 0 150 = (gV σ 23 0 150) from (f37.1 23 0 (150) (by decide) (by decide)).trans (show gV τ11 23 0 150 = (gV σ 23 0 150) from (f13.1 23 0 (150) (by decide) (by decide)).trans rfl)))
    have q47 : (gV τ35 23 0 152).toInt = (gV σ 23 0 152).toInt := congrArg Int32.toInt (show (gV τ35 23 0 152) = (gV σ 23 0 152) from (show gV τ35 23 0 152 = (gV σ 23 0 152) from (f37.1 23 0 (152) (by decide) (by decide)).trans (show gV τ11 23 0 152 = (gV σ 23 0 152) from (f13.1 23 0 (152) (by decide) (by decide)).trans rfl)))
    have q48 : (gV τ35 23 0 188).toInt = (gV σ 23 0 188).toInt := congrArg Int32.toInt (show (gV τ35 23 0 188) = (gV σ 23 0 188) from (show gV τ35 23 0 188 = (gV σ 23 0 188) from (f37.1 23 0 (188) (by decide) (by decide)).trans (show gV τ11 23 0 188 = (gV σ 23 0 188) from (f13.1 23 0 (188) (by decide) (by decide)).trans rfl)))
    rcases h41 with ⟨h41_0, h41_1, h41_2, h41_3, h41_4⟩ | ⟨h41_0, h41_1, h41_2, h41_3, h41_4, h41_5, h41_6⟩ | ⟨h41_0, h41_1, h41_2, h41_3, h41_4, h41_5, h41_6⟩
    · skip
      have b49 : IV x38 (-1) (-1) := ⟨by omega, by omega⟩
      have b50 : IV (gV τ35 22 0 16) 1 1 := ⟨by omega, by omega⟩
      show MW p l e _ s m args below meth c _ 2 G 0 0 41 [some (.ref (G.1 22 0)), some (.int (gV σ 23 0 188))] [.int x38, .int x30, .ref (G.1 23 0)] τ35
      refine as_23 C b31 (by decide) rfl dX12_takeStone_41 ?_
      refine m_tops (fun τ51 eτ51 => ?_)
      have i52 : Inv τ51 := eτ51 ▸ Inv.putRo i36 (by omega)
      have f53 : Fr MS_X12_takeStoneE AS_X12_takeStoneE σ τ51 := eτ51 ▸ Fr.put (g40) (Or.inr (by decide))
      have v54 : Pb τ51 := v42.put eτ51 (Or.inr (by omega))
      have v55 : TpM τ51 T N := v43.put eτ51 (Or.inl (by decide)) (by decide)
      refine m_aload_n C dX12_takeStone_42 rfl rfl ?_
      refine g_22_0 C q4_116 dX12_takeStone_43 ?_
      refine m_sipush (v := 193) C dX12_takeStone_46 (by decide) ?_
      refine m_iload_n C dX12_takeStone_49 rfl rfl ?_
      refine m_iadd C dX12_takeStone_50 ?_
      refine m_topi (fun x56 ex56 => ?_)
      have tx56 : x56.toInt = 193 + (gV σ 23 0 188).toInt := by rw [ex56, ti_addv kc_193 b10 (by decide), kt_193]
      have b57 : IV x56 193 196 := by rw [ex56]; exact iv_add kc_193 b10 (by decide)
      refine m_aload_n C dX12_takeStone_51 rfl rfl ?_
      refine g_22_16 C q4_132 dX12_takeStone_52 ?_
      refine m_eqs (w := (gV τ35 22 0 16)) (show gV τ51 22 0 16 = (gV τ35 22 0 16) from gV_put eτ51 rfl) ?_
      refine m_if_ne (tgt := 68) C dX12_takeStone_55 (by decide) (fun c58 => ?_) (fun c58 => ?_)
      · have f59 : (gV τ35 22 0 16).toInt ≠ 0 := by
          have q : _ := c58
          simp only [ti_nle, ti_nlt, ti_le, ti_lt, ti_eq, ti_ne, Classical.not_not, kt_0] at q
          omega
        refine m_iconst (v := 0) C dX12_takeStone_68 (by decide) ?_
        refine as_23 C b57 (by decide) rfl dX12_takeStone_69 ?_
        refine m_tops (fun τ60 eτ60 => ?_)
        have i61 : Inv τ60 := eτ60 ▸ Inv.putR0 i52 (by omega) kt_0
        have f62 : Fr MS_X12_takeStoneE AS_X12_takeStoneE σ τ60 := eτ60 ▸ Fr.put (f53) (Or.inr (by decide))
        have v63 : Pb τ60 := v54.put eτ60 (Or.inr (by omega))
        have v64 : TpM τ60 T N := v55.put eτ60 (Or.inl (by decide)) (by decide)
        refine m_aload_n C dX12_takeStone_70 rfl rfl ?_
        refine g_22_0 C q4_116 dX12_takeStone_71 ?_
        refine m_sipush (v := 188) C dX12_takeStone_74 (by decide) ?_
        refine m_dup2 C dX12_takeStone_77 rfl rfl ?_
        refine al_23 C kc_188 (by decide) kn_188 dX12_takeStone_78 ?_
        refine m_eqs (w := (gV σ 23 0 188)) (show gV τ60 23 0 188 = (gV σ 23 0 188) from (gV_putn eτ60 (Or.inr (Or.inr (by omega)))).trans (show gV τ51 23 0 188 = (gV σ 23 0 188) from (gV_putn eτ51 (Or.inr (Or.inr (by omega)))).trans (show gV τ35 23 0 188 = (gV σ 23 0 188) from (f37.1 23 0 (188) (by decide) (by decide)).trans (show gV τ11 23 0 188 = (gV σ 23 0 188) from (f13.1 23 0 (188) (by decide) (by decide)).trans rfl)))) ?_
        refine m_iconst (v := 1) C dX12_takeStone_79 (by decide) ?_
        refine m_iadd C dX12_takeStone_80 ?_
        refine m_topi (fun x65 ex65 => ?_)
        have tx65 : x65.toInt = (gV σ 23 0 188).toInt + 1 := by rw [ex65, ti_addv b10 kc_1 (by decide), kt_1]
        have b66 : IV x65 1 4 := by rw [ex65]; exact iv_add b10 kc_1 (by decide)
        refine as_23 C kc_188 (by decide) kn_188 dX12_takeStone_81 ?_
        refine m_tops (fun τ67 eτ67 => ?_)
        have i68 : Inv τ67 := eτ67 ▸ Inv.putR i61 (by decide) (iv_wk b66 (by decide))
        have f69 : Fr MS_X12_takeStoneE AS_X12_takeStoneE σ τ67 := eτ67 ▸ Fr.put (f62) (Or.inr (by decide))
        have v70 : Pb τ67 := v63.put eτ67 (Or.inr (by omega))
        have v71 : TpM τ67 T N := v64.put eτ67 (Or.inl (by decide)) (by decide)
        refine m_aload_n C dX12_takeStone_82 rfl rfl ?_
        have q72 : (gV τ67 22 0 6).toInt = (gV σ 22 0 6).toInt := congrArg Int32.toInt (show (gV τ67 22 0 6) = (gV σ 22 0 6) from (show gV τ67 22 0 6 = (gV σ 22 0 6) from gV_put eτ67 (show gV τ60 22 0 6 = (gV σ 22 0 6) from gV_put eτ60 (show gV τ51 22 0 6 = (gV σ 22 0 6) from gV_put eτ51 (show gV τ35 22 0 6 = (gV σ 22 0 6) from (f37.1 22 0 (6) (by decide) (by decide)).trans (show gV τ11 22 0 6 = (gV σ 22 0 6) from (f13.1 22 0 (6) (by decide) (by decide)).trans rfl))))))
        have q73 : (gV τ67 23 0 150).toInt = (gV σ 23 0 150).toInt := congrArg Int32.toInt (show (gV τ67 23 0 150) = (gV σ 23 0 150) from (show gV τ67 23 0 150 = (gV σ 23 0 150) from gV_put eτ67 (show gV τ60 23 0 150 = (gV σ 23 0 150) from (gV_putn eτ60 (Or.inr (Or.inr (by omega)))).trans (show gV τ51 23 0 150 = (gV σ 23 0 150) from (gV_putn eτ51 (Or.inr (Or.inr (by omega)))).trans (show gV τ35 23 0 150 = (gV σ 23 0 150) from (f37.1 23 0 (150) (by decide) (by decide)).trans (show gV τ11 23 0 150 = (gV σ 23 0 150) from (f13.1 23 0 (150) (by decide) (by decide)).trans rfl))))))
        have q74 : (gV τ67 23 0 152).toInt = (gV σ 23 0 152).toInt := congrArg Int32.toInt (show (gV τ67 23 0 152) = (gV σ 23 0 152) from (show gV τ67 23 0 152 = (gV σ 23 0 152) from gV_put eτ67 (show gV τ60 23 0 152 = (gV σ 23 0 152) from (gV_putn eτ60 (Or.inr (Or.inr (by omega)))).trans (show gV τ51 23 0 152 = (gV σ 23 0 152) from (gV_putn eτ51 (Or.inr (Or.inr (by omega)))).trans (show gV τ35 23 0 152 = (gV σ 23 0 152) from (f37.1 23 0 (152) (by decide) (by decide)).trans (show gV τ11 23 0 152 = (gV σ 23 0 152) from (f13.1 23 0 (152) (by decide) (by decide)).trans rfl))))))
        have q75 : (gV τ67 22 0 11).toInt = (gV τ35 22 0 11).toInt := congrArg Int32.toInt (show (gV τ67 22 0 11) = (gV τ35 22 0 11) from (show gV τ67 22 0 11 = (gV τ35 22 0 11) from gV_put eτ67 (show gV τ60 22 0 11 = (gV τ35 22 0 11) from gV_put eτ60 (show gV τ51 22 0 11 = (gV τ35 22 0 11) from gV_put eτ51 rfl))))
        have q76 : (gV τ67 22 0 12).toInt = (gV τ35 22 0 12).toInt := congrArg Int32.toInt (show (gV τ67 22 0 12) = (gV τ35 22 0 12) from (show gV τ67 22 0 12 = (gV τ35 22 0 12) from gV_put eτ67 (show gV τ60 22 0 12 = (gV τ35 22 0 12) from gV_put eτ60 (show gV τ51 22 0 12 = (gV τ35 22 0 12) from gV_put eτ51 rfl))))
        have q77 : (gV τ67 22 0 16).toInt = (gV τ35 22 0 16).toInt := congrArg Int32.toInt (show (gV τ67 22 0 16) = (gV τ35 22 0 16) from (show gV τ67 22 0 16 = (gV τ35 22 0 16) from gV_put eτ67 (show gV τ60 22 0 16 = (gV τ35 22 0 16) from gV_put eτ60 (show gV τ51 22 0 16 = (gV τ35 22 0 16) from gV_put eτ51 rfl))))
        have q78 : (gV τ67 23 0 188).toInt = x65.toInt := congrArg Int32.toInt (show (gV τ67 23 0 188) = x65 from (show gV τ67 23 0 188 = x65 from gV_put eτ67 (gV_self _ _ _ _ _)))
        refine m_callV (n := 0) (ci := 11) (st := []) C (c_X12_takeSignE l G τ67 T N (tE T N (tE T N i))  i68 v71 (fun h => absurd h (by omega)) (by omega)) (by decide) (by decide) rfl rfl rfl q5_15 q5_12 q5_14 q0_32 q1_7 (by decide +kernel) rfl (by decide) (by decide) rfl (Nat.le_of_ble_eq_true rfl) dX12_takeStone_83 ?_
        rintro _ τ79 ⟨rfl, i80, f81, h85⟩
        have g84 : Fr MS_X12_takeStoneE AS_X12_takeStoneE σ τ79 := Fr.call (f69) f81 (by decide)
        have v86 : Pb τ79 := v70.call (fun k => f81.1 23 0 k (by simp) (by decide))
        have v87 : TpM τ79 T N := v71.fr f81 (by decide) (by decide) (by simp) (by decide)
        have u88 : IV (gV τ79 22 0 11) 0 400 := i80.1 22 0 11
        have q89 : (gV τ79 22 0 6).toInt = (gV σ 22 0 6).toInt := congrArg Int32.toInt (show (gV τ79 22 0 6) = (gV σ 22 0 6) from (show gV τ79 22 0 6 = (gV σ 22 0 6) from (f81.1 22 0 (6) (by decide) (by decide)).trans (show gV τ67 22 0 6 = (gV σ 22 0 6) from gV_put eτ67 (show gV τ60 22 0 6 = (gV σ 22 0 6) from gV_put eτ60 (show gV τ51 22 0 6 = (gV σ 22 0 6) from gV_put eτ51 (show gV τ35 22 0 6 = (gV σ 22 0 6) from (f37.1 22 0 (6) (by decide) (by decide)).trans (show gV τ11 22 0 6 = (gV σ 22 0 6) from (f13.1 22 0 (6) (by decide) (by decide)).trans rfl)))))))
        have q90 : (gV τ79 23 0 150).toInt = (gV σ 23 0 150).toInt := congrArg Int32.toInt (show (gV τ79 23 0 150) = (gV σ 23 0 150) from (show gV τ79 23 0 150 = (gV σ 23 0 150) from (f81.1 23 0 (150) (by decide) (by decide)).trans (show gV τ67 23 0 150 = (gV σ 23 0 150) from gV_put eτ67 (show gV τ60 23 0 150 = (gV σ 23 0 150) from (gV_putn eτ60 (Or.inr (Or.inr (by omega)))).trans (show gV τ51 23 0 150 = (gV σ 23 0 150) from (gV_putn eτ51 (Or.inr (Or.inr (by omega)))).trans (show gV τ35 23 0 150 = (gV σ 23 0 150) from (f37.1 23 0 (150) (by decide) (by decide)).trans (show gV τ11 23 0 150 = (gV σ 23 0 150) from (f13.1 23 0 (150) (by decide) (by decide)).trans rfl)))))))
        have q91 : (gV τ79 23 0 152).toInt = (gV σ 23 0 152).toInt := congrArg Int32.toInt (show (gV τ79 23 0 152) = (gV σ 23 0 152) from (show gV τ79 23 0 152 = (gV σ 23 0 152) from (f81.1 23 0 (152) (by decide) (by decide)).trans (show gV τ67 23 0 152 = (gV σ 23 0 152) from gV_put eτ67 (show gV τ60 23 0 152 = (gV σ 23 0 152) from (gV_putn eτ60 (Or.inr (Or.inr (by omega)))).trans (show gV τ51 23 0 152 = (gV σ 23 0 152) from (gV_putn eτ51 (Or.inr (Or.inr (by omega)))).trans (show gV τ35 23 0 152 = (gV σ 23 0 152) from (f37.1 23 0 (152) (by decide) (by decide)).trans (show gV τ11 23 0 152 = (gV σ 23 0 152) from (f13.1 23 0 (152) (by decide) (by decide)).trans rfl)))))))
        have q92 : (gV τ79 23 0 188).toInt = x65.toInt := congrArg Int32.toInt (show (gV τ79 23 0 188) = x65 from (show gV τ79 23 0 188 = x65 from (f81.1 23 0 (188) (by decide) (by decide)).trans (show gV τ67 23 0 188 = x65 from gV_put eτ67 (gV_self _ _ _ _ _))))
        rcases h85 with ⟨h85_0, h85_1, h85_2, h85_3⟩ | ⟨h85_0, h85_1, h85_2, h85_3, h85_4⟩ | ⟨h85_0, h85_1, h85_2, h85_3, h85_4, h85_5⟩
        · skip
          show MW p l e _ s m args below meth c _ 2 G 0 0 86 [some (.ref (G.1 22 0)), some (.int (gV σ 23 0 188))] [] τ79
          exact m_vret C hr hlk (by decide) (by decide) dX12_takeStone_86 ⟨rfl, i80, g84, (by have qd := sto_1 T N cc i (by omega) (by omega); exact Or.inl ⟨by omega, by omega, by omega, by omega, by omega, by omega, v86⟩)⟩
        · skip
          exfalso; omega
        · skip
          exfalso; omega
      · exfalso
        have q : _ := c58
        simp only [ti_nle, ti_nlt, ti_le, ti_lt, ti_eq, ti_ne, Classical.not_not, kt_0] at q
        have q1 := b50; have q2 := kc_0; omega
    · skip
      have b94 : IV x38 (-1) (-1) := ⟨by omega, by omega⟩
      have b95 : IV (gV τ35 22 0 16) 2 2 := ⟨by omega, by omega⟩
      show MW p l e _ s m args below meth c _ 2 G 0 0 41 [some (.ref (G.1 22 0)), some (.int (gV σ 23 0 188))] [.int x38, .int x30, .ref (G.1 23 0)] τ35
      refine as_23 C b31 (by decide) rfl dX12_takeStone_41 ?_
      refine m_tops (fun τ96 eτ96 => ?_)
      have i97 : Inv τ96 := eτ96 ▸ Inv.putRo i36 (by omega)
      have f98 : Fr MS_X12_takeStoneE AS_X12_takeStoneE σ τ96 := eτ96 ▸ Fr.put (g40) (Or.inr (by decide))
      have v99 : Pb τ96 := v42.put eτ96 (Or.inr (by omega))
      have v100 : TpM τ96 T N := v43.put eτ96 (Or.inl (by decide)) (by decide)
      refine m_aload_n C dX12_takeStone_42 rfl rfl ?_
      refine g_22_0 C q4_116 dX12_takeStone_43 ?_
      refine m_sipush (v := 193) C dX12_takeStone_46 (by decide) ?_
      refine m_iload_n C dX12_takeStone_49 rfl rfl ?_
      refine m_iadd C dX12_takeStone_50 ?_
      refine m_topi (fun x101 ex101 => ?_)
      have tx101 : x101.toInt = 193 + (gV σ 23 0 188).toInt := by rw [ex101, ti_addv kc_193 b10 (by decide), kt_193]
      have b102 : IV x101 193 196 := by rw [ex101]; exact iv_add kc_193 b10 (by decide)
      refine m_aload_n C dX12_takeStone_51 rfl rfl ?_
      refine g_22_16 C q4_132 dX12_takeStone_52 ?_
      refine m_eqs (w := (gV τ35 22 0 16)) (show gV τ96 22 0 16 = (gV τ35 22 0 16) from gV_put eτ96 rfl) ?_
      refine m_if_ne (tgt := 68) C dX12_takeStone_55 (by decide) (fun c103 => ?_) (fun c103 => ?_)
      · have f104 : (gV τ35 22 0 16).toInt ≠ 0 := by
          have q : _ := c103
          simp only [ti_nle, ti_nlt, ti_le, ti_lt, ti_eq, ti_ne, Classical.not_not, kt_0] at q
          omega
        refine m_iconst (v := 0) C dX12_takeStone_68 (by decide) ?_
        refine as_23 C b102 (by decide) rfl dX12_takeStone_69 ?_
        refine m_tops (fun τ105 eτ105 => ?_)
        have i106 : Inv τ105 := eτ105 ▸ Inv.putR0 i97 (by omega) kt_0
        have f107 : Fr MS_X12_takeStoneE AS_X12_takeStoneE σ τ105 := eτ105 ▸ Fr.put (f98) (Or.inr (by decide))
        have v108 : Pb τ105 := v99.put eτ105 (Or.inr (by omega))
        have v109 : TpM τ105 T N := v100.put eτ105 (Or.inl (by decide)) (by decide)
        refine m_aload_n C dX12_takeStone_70 rfl rfl ?_
        refine g_22_0 C q4_116 dX12_takeStone_71 ?_
        refine m_sipush (v := 188) C dX12_takeStone_74 (by decide) ?_
        refine m_dup2 C dX12_takeStone_77 rfl rfl ?_
        refine al_23 C kc_188 (by decide) kn_188 dX12_takeStone_78 ?_
        refine m_eqs (w := (gV σ 23 0 188)) (show gV τ105 23 0 188 = (gV σ 23 0 188) from (gV_putn eτ105 (Or.inr (Or.inr (by omega)))).trans (show gV τ96 23 0 188 = (gV σ 23 0 188) from (gV_putn eτ96 (Or.inr (Or.inr (by omega)))).trans (show gV τ35 23 0 188 = (gV σ 23 0 188) from (f37.1 23 0 (188) (by decide) (by decide)).trans (show gV τ11 23 0 188 = (gV σ 23 0 188) from (f13.1 23 0 (188) (by decide) (by decide)).trans rfl)))) ?_
        refine m_iconst (v := 1) C dX12_takeStone_79 (by decide) ?_
        refine m_iadd C dX12_takeStone_80 ?_
        refine m_topi (fun x110 ex110 => ?_)
        have tx110 : x110.toInt = (gV σ 23 0 188).toInt + 1 := by rw [ex110, ti_addv b10 kc_1 (by decide), kt_1]
        have b111 : IV x110 1 4 := by rw [ex110]; exact iv_add b10 kc_1 (by decide)
        refine as_23 C kc_188 (by decide) kn_188 dX12_takeStone_81 ?_
        refine m_tops (fun τ112 eτ112 => ?_)
        have i113 : Inv τ112 := eτ112 ▸ Inv.putR i106 (by decide) (iv_wk b111 (by decide))
        have f114 : Fr MS_X12_takeStoneE AS_X12_takeStoneE σ τ112 := eτ112 ▸ Fr.put (f107) (Or.inr (by decide))
        have v115 : Pb τ112 := v108.put eτ112 (Or.inr (by omega))
        have v116 : TpM τ112 T N := v109.put eτ112 (Or.inl (by decide)) (by decide)
        refine m_aload_n C dX12_takeStone_82 rfl rfl ?_
        have q117 : (gV τ112 22 0 6).toInt = (gV σ 22 0 6).toInt := congrArg Int32.toInt (show (gV τ112 22 0 6) = (gV σ 22 0 6) from (show gV τ112 22 0 6 = (gV σ 22 0 6) from gV_put eτ112 (show gV τ105 22 0 6 = (gV σ 22 0 6) from gV_put eτ105 (show gV τ96 22 0 6 = (gV σ 22 0 6) from gV_put eτ96 (show gV τ35 22 0 6 = (gV σ 22 0 6) from (f37.1 22 0 (6) (by decide) (by decide)).trans (show gV τ11 22 0 6 = (gV σ 22 0 6) from (f13.1 22 0 (6) (by decide) (by decide)).trans rfl))))))
        have q118 : (gV τ112 23 0 150).toInt = (gV σ 23 0 150).toInt := congrArg Int32.toInt (show (gV τ112 23 0 150) = (gV σ 23 0 150) from (show gV τ112 23 0 150 = (gV σ 23 0 150) from gV_put eτ112 (show gV τ105 23 0 150 = (gV σ 23 0 150) from (gV_putn eτ105 (Or.inr (Or.inr (by omega)))).trans (show gV τ96 23 0 150 = (gV σ 23 0 150) from (gV_putn eτ96 (Or.inr (Or.inr (by omega)))).trans (show gV τ35 23 0 150 = (gV σ 23 0 150) from (f37.1 23 0 (150) (by decide) (by decide)).trans (show gV τ11 23 0 150 = (gV σ 23 0 150) from (f13.1 23 0 (150) (by decide) (by decide)).trans rfl))))))
        have q119 : (gV τ112 23 0 152).toInt = (gV σ 23 0 152).toInt := congrArg Int32.toInt (show (gV τ112 23 0 152) = (gV σ 23 0 152) from (show gV τ112 23 0 152 = (gV σ 23 0 152) from gV_put eτ112 (show gV τ105 23 0 152 = (gV σ 23 0 152) from (gV_putn eτ105 (Or.inr (Or.inr (by omega)))).trans (show gV τ96 23 0 152 = (gV σ 23 0 152) from (gV_putn eτ96 (Or.inr (Or.inr (by omega)))).trans (show gV τ35 23 0 152 = (gV σ 23 0 152) from (f37.1 23 0 (152) (by decide) (by decide)).trans (show gV τ11 23 0 152 = (gV σ 23 0 152) from (f13.1 23 0 (152) (by decide) (by decide)).trans rfl))))))
        have q120 : (gV τ112 22 0 11).toInt = (gV τ35 22 0 11).toInt := congrArg Int32.toInt (show (gV τ112 22 0 11) = (gV τ35 22 0 11) from (show gV τ112 22 0 11 = (gV τ35 22 0 11) from gV_put eτ112 (show gV τ105 22 0 11 = (gV τ35 22 0 11) from gV_put eτ105 (show gV τ96 22 0 11 = (gV τ35 22 0 11) from gV_put eτ96 rfl))))
        have q121 : (gV τ112 22 0 12).toInt = (gV τ35 22 0 12).toInt := congrArg Int32.toInt (show (gV τ112 22 0 12) = (gV τ35 22 0 12) from (show gV τ112 22 0 12 = (gV τ35 22 0 12) from gV_put eτ112 (show gV τ105 22 0 12 = (gV τ35 22 0 12) from gV_put eτ105 (show gV τ96 22 0 12 = (gV τ35 22 0 12) from gV_put eτ96 rfl))))
        have q122 : (gV τ112 22 0 16).toInt = (gV τ35 22 0 16).toInt := congrArg Int32.toInt (show (gV τ112 22 0 16) = (gV τ35 22 0 16) from (show gV τ112 22 0 16 = (gV τ35 22 0 16) from gV_put eτ112 (show gV τ105 22 0 16 = (gV τ35 22 0 16) from gV_put eτ105 (show gV τ96 22 0 16 = (gV τ35 22 0 16) from gV_put eτ96 rfl))))
        have q123 : (gV τ112 23 0 188).toInt = x110.toInt := congrArg Int32.toInt (show (gV τ112 23 0 188) = x110 from (show gV τ112 23 0 188 = x110 from gV_put eτ112 (gV_self _ _ _ _ _)))
        refine m_callV (n := 0) (ci := 11) (st := []) C (c_X12_takeSignE l G τ112 T N (tE T N (tE T N i))  i113 v116 (fun h => absurd h (by omega)) (by omega)) (by decide) (by decide) rfl rfl rfl q5_15 q5_12 q5_14 q0_32 q1_7 (by decide +kernel) rfl (by decide) (by decide) rfl (Nat.le_of_ble_eq_true rfl) dX12_takeStone_83 ?_
        rintro _ τ124 ⟨rfl, i125, f126, h130⟩
        have g129 : Fr MS_X12_takeStoneE AS_X12_takeStoneE σ τ124 := Fr.call (f114) f126 (by decide)
        have v131 : Pb τ124 := v115.call (fun k => f126.1 23 0 k (by simp) (by decide))
        have v132 : TpM τ124 T N := v116.fr f126 (by decide) (by decide) (by simp) (by decide)
        have u133 : IV (gV τ124 22 0 11) 0 400 := i125.1 22 0 11
        have q134 : (gV τ124 22 0 6).toInt = (gV σ 22 0 6).toInt := congrArg Int32.toInt (show (gV τ124 22 0 6) = (gV σ 22 0 6) from (show gV τ124 22 0 6 = (gV σ 22 0 6) from (f126.1 22 0 (6) (by decide) (by decide)).trans (show gV τ112 22 0 6 = (gV σ 22 0 6) from gV_put eτ112 (show gV τ105 22 0 6 = (gV σ 22 0 6) from gV_put eτ105 (show gV τ96 22 0 6 = (gV σ 22 0 6) from gV_put eτ96 (show gV τ35 22 0 6 = (gV σ 22 0 6) from (f37.1 22 0 (6) (by decide) (by decide)).trans (show gV τ11 22 0 6 = (gV σ 22 0 6) from (f13.1 22 0 (6) (by decide) (by decide)).trans rfl)))))))
        have q135 : (gV τ124 23 0 150).toInt = (gV σ 23 0 150).toInt := congrArg Int32.toInt (show (gV τ124 23 0 150) = (gV σ 23 0 150) from (show gV τ124 23 0 150 = (gV σ 23 0 150) from (f126.1 23 0 (150) (by decide) (by decide)).trans (show gV τ112 23 0 150 = (gV σ 23 0 150) from gV_put eτ112 (show gV τ105 23 0 150 = (gV σ 23 0 150) from (gV_putn eτ105 (Or.inr (Or.inr (by omega)))).trans (show gV τ96 23 0 150 = (gV σ 23 0 150) from (gV_putn eτ96 (Or.inr (Or.inr (by omega)))).trans (show gV τ35 23 0 150 = (gV σ 23 0 150) from (f37.1 23 0 (150) (by decide) (by decide)).trans (show gV τ11 23 0 150 = (gV σ 23 0 150) from (f13.1 23 0 (150) (by decide) (by decide)).trans rfl)))))))
        have q136 : (gV τ124 23 0 152).toInt = (gV σ 23 0 152).toInt := congrArg Int32.toInt (show (gV τ124 23 0 152) = (gV σ 23 0 152) from (show gV τ124 23 0 152 = (gV σ 23 0 152) from (f126.1 23 0 (152) (by decide) (by decide)).trans (show gV τ112 23 0 152 = (gV σ 23 0 152) from gV_put eτ112 (show gV τ105 23 0 152 = (gV σ 23 0 152) from (gV_putn eτ105 (Or.inr (Or.inr (by omega)))).trans (show gV τ96 23 0 152 = (gV σ 23 0 152) from (gV_putn eτ96 (Or.inr (Or.inr (by omega)))).trans (show gV τ35 23 0 152 = (gV σ 23 0 152) from (f37.1 23 0 (152) (by decide) (by decide)).trans (show gV τ11 23 0 152 = (gV σ 23 0 152) from (f13.1 23 0 (152) (by decide) (by decide)).trans rfl)))))))
        have q137 : (gV τ124 23 0 188).toInt = x110.toInt := congrArg Int32.toInt (show (gV τ124 23 0 188) = x110 from (show gV τ124 23 0 188 = x110 from (f126.1 23 0 (188) (by decide) (by decide)).trans (show gV τ112 23 0 188 = x110 from gV_put eτ112 (gV_self _ _ _ _ _))))
        rcases h130 with ⟨h130_0, h130_1, h130_2, h130_3⟩ | ⟨h130_0, h130_1, h130_2, h130_3, h130_4⟩ | ⟨h130_0, h130_1, h130_2, h130_3, h130_4, h130_5⟩
        · skip
          show MW p l e _ s m args below meth c _ 2 G 0 0 86 [some (.ref (G.1 22 0)), some (.int (gV σ 23 0 188))] [] τ124
          exact m_vret C hr hlk (by decide) (by decide) dX12_takeStone_86 ⟨rfl, i125, g129, (by have qd := sto_2 T N cc i (by omega) (by omega) (by omega); exact Or.inl ⟨by omega, by omega, by omega, by omega, by omega, by omega, v131⟩)⟩
        · skip
          exfalso; omega
        · skip
          exfalso; omega
      · exfalso
        have q : _ := c103
        simp only [ti_nle, ti_nlt, ti_le, ti_lt, ti_eq, ti_ne, Classical.not_not, kt_0] at q
        have q1 := b95; have q2 := kc_0; omega
    · skip
      have q139 : 1 ≤ tV T (tE T N i) ∧ tV T (tE T N i) ≤ 20 := by omega
      clear h41_1
      have v140 : CuM T N (tE T N (tE T N i)) τ35 := ⟨h41_4, h41_5⟩
      clear h41_4
      have b141 : IV (gV τ35 22 0 16) 0 0 := ⟨by omega, by omega⟩
      show MW p l e _ s m args below meth c _ 2 G 0 0 41 [some (.ref (G.1 22 0)), some (.int (gV σ 23 0 188))] [.int x38, .int x30, .ref (G.1 23 0)] τ35
      refine as_23 C b31 (by decide) rfl dX12_takeStone_41 ?_
      refine m_tops (fun τ142 eτ142 => ?_)
      have i143 : Inv τ142 := eτ142 ▸ Inv.putRo i36 (by omega)
      have f144 : Fr MS_X12_takeStoneE AS_X12_takeStoneE σ τ142 := eτ142 ▸ Fr.put (g40) (Or.inr (by decide))
      have v145 : Pb τ142 := v42.put eτ142 (Or.inr (by omega))
      have v146 : TpM τ142 T N := v43.put eτ142 (Or.inl (by decide)) (by decide)
      have v147 : LW T N (tE T N (tE T N i)) τ142.2.2.1 := by rw [eτ142]; exact h41_6
      have v148 : CuM T N (tE T N (tE T N i)) τ142 := CuM.put v140 eτ142 (Or.inl (by decide))
      refine m_aload_n C dX12_takeStone_42 rfl rfl ?_
      refine g_22_0 C q4_116 dX12_takeStone_43 ?_
      refine m_sipush (v := 193) C dX12_takeStone_46 (by decide) ?_
      refine m_iload_n C dX12_takeStone_49 rfl rfl ?_
      refine m_iadd C dX12_takeStone_50 ?_
      refine m_topi (fun x149 ex149 => ?_)
      have tx149 : x149.toInt = 193 + (gV σ 23 0 188).toInt := by rw [ex149, ti_addv kc_193 b10 (by decide), kt_193]
      have b150 : IV x149 193 196 := by rw [ex149]; exact iv_add kc_193 b10 (by decide)
      refine m_aload_n C dX12_takeStone_51 rfl rfl ?_
      refine g_22_16 C q4_132 dX12_takeStone_52 ?_
      refine m_eqs (w := (gV τ35 22 0 16)) (show gV τ142 22 0 16 = (gV τ35 22 0 16) from gV_put eτ142 rfl) ?_
      refine m_if_ne (tgt := 68) C dX12_takeStone_55 (by decide) (fun c151 => ?_) (fun c151 => ?_)
      · exfalso
        have q : _ := c151
        simp only [ti_nle, ti_nlt, ti_le, ti_lt, ti_eq, ti_ne, Classical.not_not, kt_0] at q
        have q1 := b141; have q2 := kc_0; omega
      · have f153 : (gV τ35 22 0 16).toInt = 0 := by
          have q : _ := c151
          simp only [ti_nle, ti_nlt, ti_le, ti_lt, ti_eq, ti_ne, Classical.not_not, kt_0] at q
          omega
        refine m_aload_n C dX12_takeStone_58 rfl rfl ?_
        refine m_iconst (v := 0) C dX12_takeStone_59 (by decide) ?_
        refine m_iconst (v := 3) C dX12_takeStone_60 (by decide) ?_
        refine m_iconst (v := 0) C dX12_takeStone_61 (by decide) ?_
        have q154 : (gV τ142 22 0 6).toInt = (gV σ 22 0 6).toInt := congrArg Int32.toInt (show (gV τ142 22 0 6) = (gV σ 22 0 6) from (show gV τ142 22 0 6 = (gV σ 22 0 6) from gV_put eτ142 (show gV τ35 22 0 6 = (gV σ 22 0 6) from (f37.1 22 0 (6) (by decide) (by decide)).trans (show gV τ11 22 0 6 = (gV σ 22 0 6) from (f13.1 22 0 (6) (by decide) (by decide)).trans rfl))))
        have q155 : (gV τ142 23 0 150).toInt = (gV σ 23 0 150).toInt := congrArg Int32.toInt (show (gV τ142 23 0 150) = (gV σ 23 0 150) from (show gV τ142 23 0 150 = (gV σ 23 0 150) from (gV_putn eτ142 (Or.inr (Or.inr (by omega)))).trans (show gV τ35 23 0 150 = (gV σ 23 0 150) from (f37.1 23 0 (150) (by decide) (by decide)).trans (show gV τ11 23 0 150 = (gV σ 23 0 150) from (f13.1 23 0 (150) (by decide) (by decide)).trans rfl))))
        have q156 : (gV τ142 23 0 152).toInt = (gV σ 23 0 152).toInt := congrArg Int32.toInt (show (gV τ142 23 0 152) = (gV σ 23 0 152) from (show gV τ142 23 0 152 = (gV σ 23 0 152) from (gV_putn eτ142 (Or.inr (Or.inr (by omega)))).trans (show gV τ35 23 0 152 = (gV σ 23 0 152) from (f37.1 23 0 (152) (by decide) (by decide)).trans (show gV τ11 23 0 152 = (gV σ 23 0 152) from (f13.1 23 0 (152) (by decide) (by decide)).trans rfl))))
        have q157 : (gV τ142 23 0 188).toInt = (gV σ 23 0 188).toInt := congrArg Int32.toInt (show (gV τ142 23 0 188) = (gV σ 23 0 188) from (show gV τ142 23 0 188 = (gV σ 23 0 188) from (gV_putn eτ142 (Or.inr (Or.inr (by omega)))).trans (show gV τ35 23 0 188 = (gV σ 23 0 188) from (f37.1 23 0 (188) (by decide) (by decide)).trans (show gV τ11 23 0 188 = (gV σ 23 0 188) from (f13.1 23 0 (188) (by decide) (by decide)).trans rfl))))
        have q158 : (gV τ142 22 0 11).toInt = (gV τ35 22 0 11).toInt := congrArg Int32.toInt (show (gV τ142 22 0 11) = (gV τ35 22 0 11) from (show gV τ142 22 0 11 = (gV τ35 22 0 11) from gV_put eτ142 rfl))
        have q159 : (gV τ142 22 0 12).toInt = (gV τ35 22 0 12).toInt := congrArg Int32.toInt (show (gV τ142 22 0 12) = (gV τ35 22 0 12) from (show gV τ142 22 0 12 = (gV τ35 22 0 12) from gV_put eτ142 rfl))
        have q160 : (gV τ142 22 0 16).toInt = (gV τ35 22 0 16).toInt := congrArg Int32.toInt (show (gV τ142 22 0 16) = (gV τ35 22 0 16) from (show gV τ142 22 0 16 = (gV τ35 22 0 16) from gV_put eτ142 rfl))
        have q161 := kt_0
        have q162 := kt_3
        have q163 := kt_0
        refine m_callV (n := 3) (ci := 11) (st := [.int x149, .ref (G.1 23 0)]) C (c_X12_takeNumberE l G τ142 T N (tE T N (tE T N i)) (0) (3) (0) i143 v146 v148.1 (by omega)) (by decide) (by decide) rfl rfl rfl q5_7 q5_4 q5_6 q0_30 q1_7 (by decide +kernel) rfl (by decide) (by decide) rfl (Nat.le_of_ble_eq_true rfl) dX12_takeStone_62 ?_
        rintro _ τ164 ⟨x167, rfl, i165, f166, b168, h170⟩
        have g169 : Fr MS_X12_takeStoneE AS_X12_takeStoneE σ τ164 := Fr.call (f144) f166 (by decide)
        have v171 : Pb τ164 := v145.call (fun k => f166.1 23 0 k (by simp) (by decide))
        have v172 : TpM τ164 T N := v146.fr f166 (by decide) (by decide) (by simp) (by decide)
        have u173 : IV (gV τ164 22 0 11) 0 400 := i165.1 22 0 11
        have q174 : (gV τ164 22 0 6).toInt = (gV σ 22 0 6).toInt := congrArg Int32.toInt (show (gV τ164 22 0 6) = (gV σ 22 0 6) from (show gV τ164 22 0 6 = (gV σ 22 0 6) from (f166.1 22 0 (6) (by decide) (by decide)).trans (show gV τ142 22 0 6 = (gV σ 22 0 6) from gV_put eτ142 (show gV τ35 22 0 6 = (gV σ 22 0 6) from (f37.1 22 0 (6) (by decide) (by decide)).trans (show gV τ11 22 0 6 = (gV σ 22 0 6) from (f13.1 22 0 (6) (by decide) (by decide)).trans rfl)))))
        have q175 : (gV τ164 23 0 150).toInt = (gV σ 23 0 150).toInt := congrArg Int32.toInt (show (gV τ164 23 0 150) = (gV σ 23 0 150) from (show gV τ164 23 0 150 = (gV σ 23 0 150) from (f166.1 23 0 (150) (by decide) (by decide)).trans (show gV τ142 23 0 150 = (gV σ 23 0 150) from (gV_putn eτ142 (Or.inr (Or.inr (by omega)))).trans (show gV τ35 23 0 150 = (gV σ 23 0 150) from (f37.1 23 0 (150) (by decide) (by decide)).trans (show gV τ11 23 0 150 = (gV σ 23 0 150) from (f13.1 23 0 (150) (by decide) (by decide)).trans rfl)))))
        have q176 : (gV τ164 23 0 152).toInt = (gV σ 23 0 152).toInt := congrArg Int32.toInt (show (gV τ164 23 0 152) = (gV σ 23 0 152) from (show gV τ164 23 0 152 = (gV σ 23 0 152) from (f166.1 23 0 (152) (by decide) (by decide)).trans (show gV τ142 23 0 152 = (gV σ 23 0 152) from (gV_putn eτ142 (Or.inr (Or.inr (by omega)))).trans (show gV τ35 23 0 152 = (gV σ 23 0 152) from (f37.1 23 0 (152) (by decide) (by decide)).trans (show gV τ11 23 0 152 = (gV σ 23 0 152) from (f13.1 23 0 (152) (by decide) (by decide)).trans rfl)))))
        have q177 : (gV τ164 23 0 188).toInt = (gV σ 23 0 188).toInt := congrArg Int32.toInt (show (gV τ164 23 0 188) = (gV σ 23 0 188) from (show gV τ164 23 0 188 = (gV σ 23 0 188) from (f166.1 23 0 (188) (by decide) (by decide)).trans (show gV τ142 23 0 188 = (gV σ 23 0 188) from (gV_putn eτ142 (Or.inr (Or.inr (by omega)))).trans (show gV τ35 23 0 188 = (gV σ 23 0 188) from (f37.1 23 0 (188) (by decide) (by decide)).trans (show gV τ11 23 0 188 = (gV σ 23 0 188) from (f13.1 23 0 (188) (by decide) (by decide)).trans rfl)))))
        rcases h170 with ⟨h170_0, h170_1, h170_2, h170_3, h170_4⟩ | ⟨h170_0, h170_1, h170_2, h170_3, h170_4, h170_5, h170_6⟩ | ⟨h170_0, h170_1, h170_2, h170_3, h170_4, h170_5, h170_6⟩
        · skip
          have b178 : IV x167 (-1) (-1) := ⟨by omega, by omega⟩
          have b179 : IV (gV τ164 22 0 16) 1 1 := ⟨by omega, by omega⟩
          show MW p l e _ s m args below meth c _ 2 G 0 0 65 [some (.ref (G.1 22 0)), some (.int (gV σ 23 0 188))] [.int x167, .int x149, .ref (G.1 23 0)] τ164
          refine m_goto (tgt := 69) C dX12_takeStone_65 (by decide) ?_
          refine as_23 C b150 (by decide) rfl dX12_takeStone_69 ?_
          refine m_tops (fun τ180 eτ180 => ?_)
          have i181 : Inv τ180 := eτ180 ▸ Inv.putRo i165 (by omega)
          have f182 : Fr MS_X12_takeStoneE AS_X12_takeStoneE σ τ180 := eτ180 ▸ Fr.put (g169) (Or.inr (by decide))
          have v183 : Pb τ180 := v171.put eτ180 (Or.inr (by omega))
          have v184 : TpM τ180 T N := v172.put eτ180 (Or.inl (by decide)) (by decide)
          refine m_aload_n C dX12_takeStone_70 rfl rfl ?_
          refine g_22_0 C q4_116 dX12_takeStone_71 ?_
          refine m_sipush (v := 188) C dX12_takeStone_74 (by decide) ?_
          refine m_dup2 C dX12_takeStone_77 rfl rfl ?_
          refine al_23 C kc_188 (by decide) kn_188 dX12_takeStone_78 ?_
          refine m_eqs (w := (gV σ 23 0 188)) (show gV τ180 23 0 188 = (gV σ 23 0 188) from (gV_putn eτ180 (Or.inr (Or.inr (by omega)))).trans (show gV τ164 23 0 188 = (gV σ 23 0 188) from (f166.1 23 0 (188) (by decide) (by decide)).trans (show gV τ142 23 0 188 = (gV σ 23 0 188) from (gV_putn eτ142 (Or.inr (Or.inr (by omega)))).trans (show gV τ35 23 0 188 = (gV σ 23 0 188) from (f37.1 23 0 (188) (by decide) (by decide)).trans (show gV τ11 23 0 188 = (gV σ 23 0 188) from (f13.1 23 0 (188) (by decide) (by decide)).trans rfl))))) ?_
          refine m_iconst (v := 1) C dX12_takeStone_79 (by decide) ?_
          refine m_iadd C dX12_takeStone_80 ?_
          refine m_topi (fun x185 ex185 => ?_)
          have tx185 : x185.toInt = (gV σ 23 0 188).toInt + 1 := by rw [ex185, ti_addv b10 kc_1 (by decide), kt_1]
          have b186 : IV x185 1 4 := by rw [ex185]; exact iv_add b10 kc_1 (by decide)
          refine as_23 C kc_188 (by decide) kn_188 dX12_takeStone_81 ?_
          refine m_tops (fun τ187 eτ187 => ?_)
          have i188 : Inv τ187 := eτ187 ▸ Inv.putR i181 (by decide) (iv_wk b186 (by decide))
          have f189 : Fr MS_X12_takeStoneE AS_X12_takeStoneE σ τ187 := eτ187 ▸ Fr.put (f182) (Or.inr (by decide))
          have v190 : Pb τ187 := v183.put eτ187 (Or.inr (by omega))
          have v191 : TpM τ187 T N := v184.put eτ187 (Or.inl (by decide)) (by decide)
          refine m_aload_n C dX12_takeStone_82 rfl rfl ?_
          have q192 : (gV τ187 22 0 6).toInt = (gV σ 22 0 6).toInt := congrArg Int32.toInt (show (gV τ187 22 0 6) = (gV σ 22 0 6) from (show gV τ187 22 0 6 = (gV σ 22 0 6) from gV_put eτ187 (show gV τ180 22 0 6 = (gV σ 22 0 6) from gV_put eτ180 (show gV τ164 22 0 6 = (gV σ 22 0 6) from (f166.1 22 0 (6) (by decide) (by decide)).trans (show gV τ142 22 0 6 = (gV σ 22 0 6) from gV_put eτ142 (show gV τ35 22 0 6 = (gV σ 22 0 6) from (f37.1 22 0 (6) (by decide) (by decide)).trans (show gV τ11 22 0 6 = (gV σ 22 0 6) from (f13.1 22 0 (6) (by decide) (by decide)).trans rfl)))))))
          have q193 : (gV τ187 23 0 150).toInt = (gV σ 23 0 150).toInt := congrArg Int32.toInt (show (gV τ187 23 0 150) = (gV σ 23 0 150) from (show gV τ187 23 0 150 = (gV σ 23 0 150) from gV_put eτ187 (show gV τ180 23 0 150 = (gV σ 23 0 150) from (gV_putn eτ180 (Or.inr (Or.inr (by omega)))).trans (show gV τ164 23 0 150 = (gV σ 23 0 150) from (f166.1 23 0 (150) (by decide) (by decide)).trans (show gV τ142 23 0 150 = (gV σ 23 0 150) from (gV_putn eτ142 (Or.inr (Or.inr (by omega)))).trans (show gV τ35 23 0 150 = (gV σ 23 0 150) from (f37.1 23 0 (150) (by decide) (by decide)).trans (show gV τ11 23 0 150 = (gV σ 23 0 150) from (f13.1 23 0 (150) (by decide) (by decide)).trans rfl)))))))
          have q194 : (gV τ187 23 0 152).toInt = (gV σ 23 0 152).toInt := congrArg Int32.toInt (show (gV τ187 23 0 152) = (gV σ 23 0 152) from (show gV τ187 23 0 152 = (gV σ 23 0 152) from gV_put eτ187 (show gV τ180 23 0 152 = (gV σ 23 0 152) from (gV_putn eτ180 (Or.inr (Or.inr (by omega)))).trans (show gV τ164 23 0 152 = (gV σ 23 0 152) from (f166.1 23 0 (152) (by decide) (by decide)).trans (show gV τ142 23 0 152 = (gV σ 23 0 152) from (gV_putn eτ142 (Or.inr (Or.inr (by omega)))).trans (show gV τ35 23 0 152 = (gV σ 23 0 152) from (f37.1 23 0 (152) (by decide) (by decide)).trans (show gV τ11 23 0 152 = (gV σ 23 0 152) from (f13.1 23 0 (152) (by decide) (by decide)).trans rfl)))))))
          have q195 : (gV τ187 22 0 11).toInt = (gV τ164 22 0 11).toInt := congrArg Int32.toInt (show (gV τ187 22 0 11) = (gV τ164 22 0 11) from (show gV τ187 22 0 11 = (gV τ164 22 0 11) from gV_put eτ187 (show gV τ180 22 0 11 = (gV τ164 22 0 11) from gV_put eτ180 rfl)))
          have q196 : (gV τ187 22 0 12).toInt = (gV τ164 22 0 12).toInt := congrArg Int32.toInt (show (gV τ187 22 0 12) = (gV τ164 22 0 12) from (show gV τ187 22 0 12 = (gV τ164 22 0 12) from gV_put eτ187 (show gV τ180 22 0 12 = (gV τ164 22 0 12) from gV_put eτ180 rfl)))
          have q197 : (gV τ187 22 0 16).toInt = (gV τ164 22 0 16).toInt := congrArg Int32.toInt (show (gV τ187 22 0 16) = (gV τ164 22 0 16) from (show gV τ187 22 0 16 = (gV τ164 22 0 16) from gV_put eτ187 (show gV τ180 22 0 16 = (gV τ164 22 0 16) from gV_put eτ180 rfl)))
          have q198 : (gV τ187 23 0 188).toInt = x185.toInt := congrArg Int32.toInt (show (gV τ187 23 0 188) = x185 from (show gV τ187 23 0 188 = x185 from gV_put eτ187 (gV_self _ _ _ _ _)))
          refine m_callV (n := 0) (ci := 11) (st := []) C (c_X12_takeSignE l G τ187 T N (tE T N (tE T N (tE T N i)))  i188 v191 (fun h => absurd h (by omega)) (by omega)) (by decide) (by decide) rfl rfl rfl q5_15 q5_12 q5_14 q0_32 q1_7 (by decide +kernel) rfl (by decide) (by decide) rfl (Nat.le_of_ble_eq_true rfl) dX12_takeStone_83 ?_
          rintro _ τ199 ⟨rfl, i200, f201, h205⟩
          have g204 : Fr MS_X12_takeStoneE AS_X12_takeStoneE σ τ199 := Fr.call (f189) f201 (by decide)
          have v206 : Pb τ199 := v190.call (fun k => f201.1 23 0 k (by simp) (by decide))
          have v207 : TpM τ199 T N := v191.fr f201 (by decide) (by decide) (by simp) (by decide)
          have u208 : IV (gV τ199 22 0 11) 0 400 := i200.1 22 0 11
          have q209 : (gV τ199 22 0 6).toInt = (gV σ 22 0 6).toInt := congrArg Int32.toInt (show (gV τ199 22 0 6) = (gV σ 22 0 6) from (show gV τ199 22 0 6 = (gV σ 22 0 6) from (f201.1 22 0 (6) (by decide) (by decide)).trans (show gV τ187 22 0 6 = (gV σ 22 0 6) from gV_put eτ187 (show gV τ180 22 0 6 = (gV σ 22 0 6) from gV_put eτ180 (show gV τ164 22 0 6 = (gV σ 22 0 6) from (f166.1 22 0 (6) (by decide) (by decide)).trans (show gV τ142 22 0 6 = (gV σ 22 0 6) from gV_put eτ142 (show gV τ35 22 0 6 = (gV σ 22 0 6) from (f37.1 22 0 (6) (by decide) (by decide)).trans (show gV τ11 22 0 6 = (gV σ 22 0 6) from (f13.1 22 0 (6) (by decide) (by decide)).trans rfl))))))))
          have q210 : (gV τ199 23 0 150).toInt = (gV σ 23 0 150).toInt := congrArg Int32.toInt (show (gV τ199 23 0 150) = (gV σ 23 0 150) from (show gV τ199 23 0 150 = (gV σ 23 0 150) from (f201.1 23 0 (150) (by decide) (by decide)).trans (show gV τ187 23 0 150 = (gV σ 23 0 150) from gV_put eτ187 (show gV τ180 23 0 150 = (gV σ 23 0 150) from (gV_putn eτ180 (Or.inr (Or.inr (by omega)))).trans (show gV τ164 23 0 150 = (gV σ 23 0 150) from (f166.1 23 0 (150) (by decide) (by decide)).trans (show gV τ142 23 0 150 = (gV σ 23 0 150) from (gV_putn eτ142 (Or.inr (Or.inr (by omega)))).trans (show gV τ35 23 0 150 = (gV σ 23 0 150) from (f37.1 23 0 (150) (by decide) (by decide)).trans (show gV τ11 23 0 150 = (gV σ 23 0 150) from (f13.1 23 0 (150) (by decide) (by decide)).trans rfl))))))))
          have q211 : (gV τ199 23 0 152).toInt = (gV σ 23 0 152).toInt := congrArg Int32.toInt (show (gV τ199 23 0 152) = (gV σ 23 0 152) from (show gV τ199 23 0 152 = (gV σ 23 0 152) from (f201.1 23 0 (152) (by decide) (by decide)).trans (show gV τ187 23 0 152 = (gV σ 23 0 152) from gV_put eτ187 (show gV τ180 23 0 152 = (gV σ 23 0 152) from (gV_putn eτ180 (Or.inr (Or.inr (by omega)))).trans (show gV τ164 23 0 152 = (gV σ 23 0 152) from (f166.1 23 0 (152) (by decide) (by decide)).trans (show gV τ142 23 0 152 = (gV σ 23 0 152) from (gV_putn eτ142 (Or.inr (Or.inr (by omega)))).trans (show gV τ35 23 0 152 = (gV σ 23 0 152) from (f37.1 23 0 (152) (by decide) (by decide)).trans (show gV τ11 23 0 152 = (gV σ 23 0 152) from (f13.1 23 0 (152) (by decide) (by decide)).trans rfl))))))))
          have q212 : (gV τ199 23 0 188).toInt = x185.toInt := congrArg Int32.toInt (show (gV τ199 23 0 188) = x185 from (show gV τ199 23 0 188 = x185 from (f201.1 23 0 (188) (by decide) (by decide)).trans (show gV τ187 23 0 188 = x185 from gV_put eτ187 (gV_self _ _ _ _ _))))
          rcases h205 with ⟨h205_0, h205_1, h205_2, h205_3⟩ | ⟨h205_0, h205_1, h205_2, h205_3, h205_4⟩ | ⟨h205_0, h205_1, h205_2, h205_3, h205_4, h205_5⟩
          · skip
            show MW p l e _ s m args below meth c _ 2 G 0 0 86 [some (.ref (G.1 22 0)), some (.int (gV σ 23 0 188))] [] τ199
            exact m_vret C hr hlk (by decide) (by decide) dX12_takeStone_86 ⟨rfl, i200, g204, (by have qd := sto_3 T N cc i (by omega) (by omega) (by omega) (by omega); exact Or.inl ⟨by omega, by omega, by omega, by omega, by omega, by omega, v206⟩)⟩
          · skip
            exfalso; omega
          · skip
            exfalso; omega
        · skip
          have b213 : IV x167 (-1) (-1) := ⟨by omega, by omega⟩
          have b214 : IV (gV τ164 22 0 16) 2 2 := ⟨by omega, by omega⟩
          show MW p l e _ s m args below meth c _ 2 G 0 0 65 [some (.ref (G.1 22 0)), some (.int (gV σ 23 0 188))] [.int x167, .int x149, .ref (G.1 23 0)] τ164
          refine m_goto (tgt := 69) C dX12_takeStone_65 (by decide) ?_
          refine as_23 C b150 (by decide) rfl dX12_takeStone_69 ?_
          refine m_tops (fun τ215 eτ215 => ?_)
          have i216 : Inv τ215 := eτ215 ▸ Inv.putRo i165 (by omega)
          have f217 : Fr MS_X12_takeStoneE AS_X12_takeStoneE σ τ215 := eτ215 ▸ Fr.put (g169) (Or.inr (by decide))
          have v218 : Pb τ215 := v171.put eτ215 (Or.inr (by omega))
          have v219 : TpM τ215 T N := v172.put eτ215 (Or.inl (by decide)) (by decide)
          refine m_aload_n C dX12_takeStone_70 rfl rfl ?_
          refine g_22_0 C q4_116 dX12_takeStone_71 ?_
          refine m_sipush (v := 188) C dX12_takeStone_74 (by decide) ?_
          refine m_dup2 C dX12_takeStone_77 rfl rfl ?_
          refine al_23 C kc_188 (by decide) kn_188 dX12_takeStone_78 ?_
          refine m_eqs (w := (gV σ 23 0 188)) (show gV τ215 23 0 188 = (gV σ 23 0 188) from (gV_putn eτ215 (Or.inr (Or.inr (by omega)))).trans (show gV τ164 23 0 188 = (gV σ 23 0 188) from (f166.1 23 0 (188) (by decide) (by decide)).trans (show gV τ142 23 0 188 = (gV σ 23 0 188) from (gV_putn eτ142 (Or.inr (Or.inr (by omega)))).trans (show gV τ35 23 0 188 = (gV σ 23 0 188) from (f37.1 23 0 (188) (by decide) (by decide)).trans (show gV τ11 23 0 188 = (gV σ 23 0 188) from (f13.1 23 0 (188) (by decide) (by decide)).trans rfl))))) ?_
          refine m_iconst (v := 1) C dX12_takeStone_79 (by decide) ?_
          refine m_iadd C dX12_takeStone_80 ?_
          refine m_topi (fun x220 ex220 => ?_)
          have tx220 : x220.toInt = (gV σ 23 0 188).toInt + 1 := by rw [ex220, ti_addv b10 kc_1 (by decide), kt_1]
          have b221 : IV x220 1 4 := by rw [ex220]; exact iv_add b10 kc_1 (by decide)
          refine as_23 C kc_188 (by decide) kn_188 dX12_takeStone_81 ?_
          refine m_tops (fun τ222 eτ222 => ?_)
          have i223 : Inv τ222 := eτ222 ▸ Inv.putR i216 (by decide) (iv_wk b221 (by decide))
          have f224 : Fr MS_X12_takeStoneE AS_X12_takeStoneE σ τ222 := eτ222 ▸ Fr.put (f217) (Or.inr (by decide))
          have v225 : Pb τ222 := v218.put eτ222 (Or.inr (by omega))
          have v226 : TpM τ222 T N := v219.put eτ222 (Or.inl (by decide)) (by decide)
          refine m_aload_n C dX12_takeStone_82 rfl rfl ?_
          have q227 : (gV τ222 22 0 6).toInt = (gV σ 22 0 6).toInt := congrArg Int32.toInt (show (gV τ222 22 0 6) = (gV σ 22 0 6) from (show gV τ222 22 0 6 = (gV σ 22 0 6) from gV_put eτ222 (show gV τ215 22 0 6 = (gV σ 22 0 6) from gV_put eτ215 (show gV τ164 22 0 6 = (gV σ 22 0 6) from (f166.1 22 0 (6) (by decide) (by decide)).trans (show gV τ142 22 0 6 = (gV σ 22 0 6) from gV_put eτ142 (show gV τ35 22 0 6 = (gV σ 22 0 6) from (f37.1 22 0 (6) (by decide) (by decide)).trans (show gV τ11 22 0 6 = (gV σ 22 0 6) from (f13.1 22 0 (6) (by decide) (by decide)).trans rfl)))))))
          have q228 : (gV τ222 23 0 150).toInt = (gV σ 23 0 150).toInt := congrArg Int32.toInt (show (gV τ222 23 0 150) = (gV σ 23 0 150) from (show gV τ222 23 0 150 = (gV σ 23 0 150) from gV_put eτ222 (show gV τ215 23 0 150 = (gV σ 23 0 150) from (gV_putn eτ215 (Or.inr (Or.inr (by omega)))).trans (show gV τ164 23 0 150 = (gV σ 23 0 150) from (f166.1 23 0 (150) (by decide) (by decide)).trans (show gV τ142 23 0 150 = (gV σ 23 0 150) from (gV_putn eτ142 (Or.inr (Or.inr (by omega)))).trans (show gV τ35 23 0 150 = (gV σ 23 0 150) from (f37.1 23 0 (150) (by decide) (by decide)).trans (show gV τ11 23 0 150 = (gV σ 23 0 150) from (f13.1 23 0 (150) (by decide) (by decide)).trans rfl)))))))
          have q229 : (gV τ222 23 0 152).toInt = (gV σ 23 0 152).toInt := congrArg Int32.toInt (show (gV τ222 23 0 152) = (gV σ 23 0 152) from (show gV τ222 23 0 152 = (gV σ 23 0 152) from gV_put eτ222 (show gV τ215 23 0 152 = (gV σ 23 0 152) from (gV_putn eτ215 (Or.inr (Or.inr (by omega)))).trans (show gV τ164 23 0 152 = (gV σ 23 0 152) from (f166.1 23 0 (152) (by decide) (by decide)).trans (show gV τ142 23 0 152 = (gV σ 23 0 152) from (gV_putn eτ142 (Or.inr (Or.inr (by omega)))).trans (show gV τ35 23 0 152 = (gV σ 23 0 152) from (f37.1 23 0 (152) (by decide) (by decide)).trans (show gV τ11 23 0 152 = (gV σ 23 0 152) from (f13.1 23 0 (152) (by decide) (by decide)).trans rfl)))))))
          have q230 : (gV τ222 22 0 11).toInt = (gV τ164 22 0 11).toInt := congrArg Int32.toInt (show (gV τ222 22 0 11) = (gV τ164 22 0 11) from (show gV τ222 22 0 11 = (gV τ164 22 0 11) from gV_put eτ222 (show gV τ215 22 0 11 = (gV τ164 22 0 11) from gV_put eτ215 rfl)))
          have q231 : (gV τ222 22 0 12).toInt = (gV τ164 22 0 12).toInt := congrArg Int32.toInt (show (gV τ222 22 0 12) = (gV τ164 22 0 12) from (show gV τ222 22 0 12 = (gV τ164 22 0 12) from gV_put eτ222 (show gV τ215 22 0 12 = (gV τ164 22 0 12) from gV_put eτ215 rfl)))
          have q232 : (gV τ222 22 0 16).toInt = (gV τ164 22 0 16).toInt := congrArg Int32.toInt (show (gV τ222 22 0 16) = (gV τ164 22 0 16) from (show gV τ222 22 0 16 = (gV τ164 22 0 16) from gV_put eτ222 (show gV τ215 22 0 16 = (gV τ164 22 0 16) from gV_put eτ215 rfl)))
          have q233 : (gV τ222 23 0 188).toInt = x220.toInt := congrArg Int32.toInt (show (gV τ222 23 0 188) = x220 from (show gV τ222 23 0 188 = x220 from gV_put eτ222 (gV_self _ _ _ _ _)))
          refine m_callV (n := 0) (ci := 11) (st := []) C (c_X12_takeSignE l G τ222 T N (tE T N (tE T N (tE T N i)))  i223 v226 (fun h => absurd h (by omega)) (by omega)) (by decide) (by decide) rfl rfl rfl q5_15 q5_12 q5_14 q0_32 q1_7 (by decide +kernel) rfl (by decide) (by decide) rfl (Nat.le_of_ble_eq_true rfl) dX12_takeStone_83 ?_
          rintro _ τ234 ⟨rfl, i235, f236, h240⟩
          have g239 : Fr MS_X12_takeStoneE AS_X12_takeStoneE σ τ234 := Fr.call (f224) f236 (by decide)
          have v241 : Pb τ234 := v225.call (fun k => f236.1 23 0 k (by simp) (by decide))
          have v242 : TpM τ234 T N := v226.fr f236 (by decide) (by decide) (by simp) (by decide)
          have u243 : IV (gV τ234 22 0 11) 0 400 := i235.1 22 0 11
          have q244 : (gV τ234 22 0 6).toInt = (gV σ 22 0 6).toInt := congrArg Int32.toInt (show (gV τ234 22 0 6) = (gV σ 22 0 6) from (show gV τ234 22 0 6 = (gV σ 22 0 6) from (f236.1 22 0 (6) (by decide) (by decide)).trans (show gV τ222 22 0 6 = (gV σ 22 0 6) from gV_put eτ222 (show gV τ215 22 0 6 = (gV σ 22 0 6) from gV_put eτ215 (show gV τ164 22 0 6 = (gV σ 22 0 6) from (f166.1 22 0 (6) (by decide) (by decide)).trans (show gV τ142 22 0 6 = (gV σ 22 0 6) from gV_put eτ142 (show gV τ35 22 0 6 = (gV σ 22 0 6) from (f37.1 22 0 (6) (by decide) (by decide)).trans (show gV τ11 22 0 6 = (gV σ 22 0 6) from (f13.1 22 0 (6) (by decide) (by decide)).trans rfl))))))))
          have q245 : (gV τ234 23 0 150).toInt = (gV σ 23 0 150).toInt := congrArg Int32.toInt (show (gV τ234 23 0 150) = (gV σ 23 0 150) from (show gV τ234 23 0 150 = (gV σ 23 0 150) from (f236.1 23 0 (150) (by decide) (by decide)).trans (show gV τ222 23 0 150 = (gV σ 23 0 150) from gV_put eτ222 (show gV τ215 23 0 150 = (gV σ 23 0 150) from (gV_putn eτ215 (Or.inr (Or.inr (by omega)))).trans (show gV τ164 23 0 150 = (gV σ 23 0 150) from (f166.1 23 0 (150) (by decide) (by decide)).trans (show gV τ142 23 0 150 = (gV σ 23 0 150) from (gV_putn eτ142 (Or.inr (Or.inr (by omega)))).trans (show gV τ35 23 0 150 = (gV σ 23 0 150) from (f37.1 23 0 (150) (by decide) (by decide)).trans (show gV τ11 23 0 150 = (gV σ 23 0 150) from (f13.1 23 0 (150) (by decide) (by decide)).trans rfl))))))))
          have q246 : (gV τ234 23 0 152).toInt = (gV σ 23 0 152).toInt := congrArg Int32.toInt (show (gV τ234 23 0 152) = (gV σ 23 0 152) from (show gV τ234 23 0 152 = (gV σ 23 0 152) from (f236.1 23 0 (152) (by decide) (by decide)).trans (show gV τ222 23 0 152 = (gV σ 23 0 152) from gV_put eτ222 (show gV τ215 23 0 152 = (gV σ 23 0 152) from (gV_putn eτ215 (Or.inr (Or.inr (by omega)))).trans (show gV τ164 23 0 152 = (gV σ 23 0 152) from (f166.1 23 0 (152) (by decide) (by decide)).trans (show gV τ142 23 0 152 = (gV σ 23 0 152) from (gV_putn eτ142 (Or.inr (Or.inr (by omega)))).trans (show gV τ35 23 0 152 = (gV σ 23 0 152) from (f37.1 23 0 (152) (by decide) (by decide)).trans (show gV τ11 23 0 152 = (gV σ 23 0 152) from (f13.1 23 0 (152) (by decide) (by decide)).trans rfl))))))))
          have q247 : (gV τ234 23 0 188).toInt = x220.toInt := congrArg Int32.toInt (show (gV τ234 23 0 188) = x220 from (show gV τ234 23 0 188 = x220 from (f236.1 23 0 (188) (by decide) (by decide)).trans (show gV τ222 23 0 188 = x220 from gV_put eτ222 (gV_self _ _ _ _ _))))
          rcases h240 with ⟨h240_0, h240_1, h240_2, h240_3⟩ | ⟨h240_0, h240_1, h240_2, h240_3, h240_4⟩ | ⟨h240_0, h240_1, h240_2, h240_3, h240_4, h240_5⟩
          · skip
            show MW p l e _ s m args below meth c _ 2 G 0 0 86 [some (.ref (G.1 22 0)), some (.int (gV σ 23 0 188))] [] τ234
            exact m_vret C hr hlk (by decide) (by decide) dX12_takeStone_86 ⟨rfl, i235, g239, (by have qd := sto_4 T N cc i (by omega) (by omega) (by omega) (by omega) (by omega); exact Or.inl ⟨by omega, by omega, by omega, by omega, by omega, by omega, v241⟩)⟩
          · skip
            exfalso; omega
          · skip
            exfalso; omega
        · skip
          have q248 : 0 ≤ tV T (tE T N (tE T N i)) ∧ tV T (tE T N (tE T N i)) ≤ 3 := by omega
          clear h170_1
          have v249 : CuM T N (tE T N (tE T N (tE T N i))) τ164 := ⟨h170_4, h170_5⟩
          clear h170_4
          have b250 : IV (gV τ164 22 0 16) 0 0 := ⟨by omega, by omega⟩
          show MW p l e _ s m args below meth c _ 2 G 0 0 65 [some (.ref (G.1 22 0)), some (.int (gV σ 23 0 188))] [.int x167, .int x149, .ref (G.1 23 0)] τ164
          refine m_goto (tgt := 69) C dX12_takeStone_65 (by decide) ?_
          refine as_23 C b150 (by decide) rfl dX12_takeStone_69 ?_
          refine m_tops (fun τ251 eτ251 => ?_)
          have i252 : Inv τ251 := eτ251 ▸ Inv.putRo i165 (by omega)
          have f253 : Fr MS_X12_takeStoneE AS_X12_takeStoneE σ τ251 := eτ251 ▸ Fr.put (g169) (Or.inr (by decide))
          have v254 : Pb τ251 := v171.put eτ251 (Or.inr (by omega))
          have v255 : TpM τ251 T N := v172.put eτ251 (Or.inl (by decide)) (by decide)
          have v256 : LW T N (tE T N (tE T N (tE T N i))) τ251.2.2.1 := by rw [eτ251]; exact h170_6
          have v257 : CuM T N (tE T N (tE T N (tE T N i))) τ251 := CuM.put v249 eτ251 (Or.inl (by decide))
          refine m_aload_n C dX12_takeStone_70 rfl rfl ?_
          refine g_22_0 C q4_116 dX12_takeStone_71 ?_
          refine m_sipush (v := 188) C dX12_takeStone_74 (by decide) ?_
          refine m_dup2 C dX12_takeStone_77 rfl rfl ?_
          refine al_23 C kc_188 (by decide) kn_188 dX12_takeStone_78 ?_
          refine m_eqs (w := (gV σ 23 0 188)) (show gV τ251 23 0 188 = (gV σ 23 0 188) from (gV_putn eτ251 (Or.inr (Or.inr (by omega)))).trans (show gV τ164 23 0 188 = (gV σ 23 0 188) from (f166.1 23 0 (188) (by decide) (by decide)).trans (show gV τ142 23 0 188 = (gV σ 23 0 188) from (gV_putn eτ142 (Or.inr (Or.inr (by omega)))).trans (show gV τ35 23 0 188 = (gV σ 23 0 188) from (f37.1 23 0 (188) (by decide) (by decide)).trans (show gV τ11 23 0 188 = (gV σ 23 0 188) from (f13.1 23 0 (188) (by decide) (by decide)).trans rfl))))) ?_
          refine m_iconst (v := 1) C dX12_takeStone_79 (by decide) ?_
          refine m_iadd C dX12_takeStone_80 ?_
          refine m_topi (fun x258 ex258 => ?_)
          have tx258 : x258.toInt = (gV σ 23 0 188).toInt + 1 := by rw [ex258, ti_addv b10 kc_1 (by decide), kt_1]
          have b259 : IV x258 1 4 := by rw [ex258]; exact iv_add b10 kc_1 (by decide)
          refine as_23 C kc_188 (by decide) kn_188 dX12_takeStone_81 ?_
          refine m_tops (fun τ260 eτ260 => ?_)
          have i261 : Inv τ260 := eτ260 ▸ Inv.putR i252 (by decide) (iv_wk b259 (by decide))
          have f262 : Fr MS_X12_takeStoneE AS_X12_takeStoneE σ τ260 := eτ260 ▸ Fr.put (f253) (Or.inr (by decide))
          have v263 : Pb τ260 := v254.put eτ260 (Or.inr (by omega))
          have v264 : TpM τ260 T N := v255.put eτ260 (Or.inl (by decide)) (by decide)
          have v265 : LW T N (tE T N (tE T N (tE T N i))) τ260.2.2.1 := by rw [eτ260]; exact v256
          have v266 : CuM T N (tE T N (tE T N (tE T N i))) τ260 := CuM.put v257 eτ260 (Or.inl (by decide))
          refine m_aload_n C dX12_takeStone_82 rfl rfl ?_
          have q267 : (gV τ260 22 0 6).toInt = (gV σ 22 0 6).toInt := congrArg Int32.toInt (show (gV τ260 22 0 6) = (gV σ 22 0 6) from (show gV τ260 22 0 6 = (gV σ 22 0 6) from gV_put eτ260 (show gV τ251 22 0 6 = (gV σ 22 0 6) from gV_put eτ251 (show gV τ164 22 0 6 = (gV σ 22 0 6) from (f166.1 22 0 (6) (by decide) (by decide)).trans (show gV τ142 22 0 6 = (gV σ 22 0 6) from gV_put eτ142 (show gV τ35 22 0 6 = (gV σ 22 0 6) from (f37.1 22 0 (6) (by decide) (by decide)).trans (show gV τ11 22 0 6 = (gV σ 22 0 6) from (f13.1 22 0 (6) (by decide) (by decide)).trans rfl)))))))
          have q268 : (gV τ260 23 0 150).toInt = (gV σ 23 0 150).toInt := congrArg Int32.toInt (show (gV τ260 23 0 150) = (gV σ 23 0 150) from (show gV τ260 23 0 150 = (gV σ 23 0 150) from gV_put eτ260 (show gV τ251 23 0 150 = (gV σ 23 0 150) from (gV_putn eτ251 (Or.inr (Or.inr (by omega)))).trans (show gV τ164 23 0 150 = (gV σ 23 0 150) from (f166.1 23 0 (150) (by decide) (by decide)).trans (show gV τ142 23 0 150 = (gV σ 23 0 150) from (gV_putn eτ142 (Or.inr (Or.inr (by omega)))).trans (show gV τ35 23 0 150 = (gV σ 23 0 150) from (f37.1 23 0 (150) (by decide) (by decide)).trans (show gV τ11 23 0 150 = (gV σ 23 0 150) from (f13.1 23 0 (150) (by decide) (by decide)).trans rfl)))))))
          have q269 : (gV τ260 23 0 152).toInt = (gV σ 23 0 152).toInt := congrArg Int32.toInt (show (gV τ260 23 0 152) = (gV σ 23 0 152) from (show gV τ260 23 0 152 = (gV σ 23 0 152) from gV_put eτ260 (show gV τ251 23 0 152 = (gV σ 23 0 152) from (gV_putn eτ251 (Or.inr (Or.inr (by omega)))).trans (show gV τ164 23 0 152 = (gV σ 23 0 152) from (f166.1 23 0 (152) (by decide) (by decide)).trans (show gV τ142 23 0 152 = (gV σ 23 0 152) from (gV_putn eτ142 (Or.inr (Or.inr (by omega)))).trans (show gV τ35 23 0 152 = (gV σ 23 0 152) from (f37.1 23 0 (152) (by decide) (by decide)).trans (show gV τ11 23 0 152 = (gV σ 23 0 152) from (f13.1 23 0 (152) (by decide) (by decide)).trans rfl)))))))
          have q270 : (gV τ260 22 0 11).toInt = (gV τ164 22 0 11).toInt := congrArg Int32.toInt (show (gV τ260 22 0 11) = (gV τ164 22 0 11) from (show gV τ260 22 0 11 = (gV τ164 22 0 11) from gV_put eτ260 (show gV τ251 22 0 11 = (gV τ164 22 0 11) from gV_put eτ251 rfl)))
          have q271 : (gV τ260 22 0 12).toInt = (gV τ164 22 0 12).toInt := congrArg Int32.toInt (show (gV τ260 22 0 12) = (gV τ164 22 0 12) from (show gV τ260 22 0 12 = (gV τ164 22 0 12) from gV_put eτ260 (show gV τ251 22 0 12 = (gV τ164 22 0 12) from gV_put eτ251 rfl)))
          have q272 : (gV τ260 22 0 16).toInt = (gV τ164 22 0 16).toInt := congrArg Int32.toInt (show (gV τ260 22 0 16) = (gV τ164 22 0 16) from (show gV τ260 22 0 16 = (gV τ164 22 0 16) from gV_put eτ260 (show gV τ251 22 0 16 = (gV τ164 22 0 16) from gV_put eτ251 rfl)))
          have q273 : (gV τ260 23 0 188).toInt = x258.toInt := congrArg Int32.toInt (show (gV τ260 23 0 188) = x258 from (show gV τ260 23 0 188 = x258 from gV_put eτ260 (gV_self _ _ _ _ _)))
          refine m_callV (n := 0) (ci := 11) (st := []) C (c_X12_takeSignE l G τ260 T N (tE T N (tE T N (tE T N i)))  i261 v264 (fun _ => v266.1) (by omega)) (by decide) (by decide) rfl rfl rfl q5_15 q5_12 q5_14 q0_32 q1_7 (by decide +kernel) rfl (by decide) (by decide) rfl (Nat.le_of_ble_eq_true rfl) dX12_takeStone_83 ?_
          rintro _ τ274 ⟨rfl, i275, f276, h280⟩
          have g279 : Fr MS_X12_takeStoneE AS_X12_takeStoneE σ τ274 := Fr.call (f262) f276 (by decide)
          have v281 : Pb τ274 := v263.call (fun k => f276.1 23 0 k (by simp) (by decide))
          have v282 : TpM τ274 T N := v264.fr f276 (by decide) (by decide) (by simp) (by decide)
          have u283 : IV (gV τ274 22 0 11) 0 400 := i275.1 22 0 11
          have q284 : (gV τ274 22 0 6).toInt = (gV σ 22 0 6).toInt := congrArg Int32.toInt (show (gV τ274 22 0 6) = (gV σ 22 0 6) from (show gV τ274 22 0 6 = (gV σ 22 0 6) from (f276.1 22 0 (6) (by decide) (by decide)).trans (show gV τ260 22 0 6 = (gV σ 22 0 6) from gV_put eτ260 (show gV τ251 22 0 6 = (gV σ 22 0 6) from gV_put eτ251 (show gV τ164 22 0 6 = (gV σ 22 0 6) from (f166.1 22 0 (6) (by decide) (by decide)).trans (show gV τ142 22 0 6 = (gV σ 22 0 6) from gV_put eτ142 (show gV τ35 22 0 6 = (gV σ 22 0 6) from (f37.1 22 0 (6) (by decide) (by decide)).trans (show gV τ11 22 0 6 = (gV σ 22 0 6) from (f13.1 22 0 (6) (by decide) (by decide)).trans rfl))))))))
          have q285 : (gV τ274 23 0 150).toInt = (gV σ 23 0 150).toInt := congrArg Int32.toInt (show (gV τ274 23 0 150) = (gV σ 23 0 150) from (show gV τ274 23 0 150 = (gV σ 23 0 150) from (f276.1 23 0 (150) (by decide) (by decide)).trans (show gV τ260 23 0 150 = (gV σ 23 0 150) from gV_put eτ260 (show gV τ251 23 0 150 = (gV σ 23 0 150) from (gV_putn eτ251 (Or.inr (Or.inr (by omega)))).trans (show gV τ164 23 0 150 = (gV σ 23 0 150) from (f166.1 23 0 (150) (by decide) (by decide)).trans (show gV τ142 23 0 150 = (gV σ 23 0 150) from (gV_putn eτ142 (Or.inr (Or.inr (by omega)))).trans (show gV τ35 23 0 150 = (gV σ 23 0 150) from (f37.1 23 0 (150) (by decide) (by decide)).trans (show gV τ11 23 0 150 = (gV σ 23 0 150) from (f13.1 23 0 (150) (by decide) (by decide)).trans rfl))))))))
          have q286 : (gV τ274 23 0 152).toInt = (gV σ 23 0 152).toInt := congrArg Int32.toInt (show (gV τ274 23 0 152) = (gV σ 23 0 152) from (show gV τ274 23 0 152 = (gV σ 23 0 152) from (f276.1 23 0 (152) (by decide) (by decide)).trans (show gV τ260 23 0 152 = (gV σ 23 0 152) from gV_put eτ260 (show gV τ251 23 0 152 = (gV σ 23 0 152) from (gV_putn eτ251 (Or.inr (Or.inr (by omega)))).trans (show gV τ164 23 0 152 = (gV σ 23 0 152) from (f166.1 23 0 (152) (by decide) (by decide)).trans (show gV τ142 23 0 152 = (gV σ 23 0 152) from (gV_putn eτ142 (Or.inr (Or.inr (by omega)))).trans (show gV τ35 23 0 152 = (gV σ 23 0 152) from (f37.1 23 0 (152) (by decide) (by decide)).trans (show gV τ11 23 0 152 = (gV σ 23 0 152) from (f13.1 23 0 (152) (by decide) (by decide)).trans rfl))))))))
          have q287 : (gV τ274 23 0 188).toInt = x258.toInt := congrArg Int32.toInt (show (gV τ274 23 0 188) = x258 from (show gV τ274 23 0 188 = x258 from (f276.1 23 0 (188) (by decide) (by decide)).trans (show gV τ260 23 0 188 = x258 from gV_put eτ260 (gV_self _ _ _ _ _))))
          rcases h280 with ⟨h280_0, h280_1, h280_2, h280_3⟩ | ⟨h280_0, h280_1, h280_2, h280_3, h280_4⟩ | ⟨h280_0, h280_1, h280_2, h280_3, h280_4, h280_5⟩
          · skip
            exfalso; omega
          · skip
            have b288 : IV (gV τ274 22 0 16) 1 1 := ⟨by omega, by omega⟩
            show MW p l e _ s m args below meth c _ 2 G 0 0 86 [some (.ref (G.1 22 0)), some (.int (gV σ 23 0 188))] [] τ274
            exact m_vret C hr hlk (by decide) (by decide) dX12_takeStone_86 ⟨rfl, i275, g279, (by have qd := sto_5 T N cc i (by omega) (by omega) (by omega) (by omega) (by omega) (by omega); exact Or.inl ⟨by omega, by omega, by omega, by omega, by omega, by omega, v281⟩)⟩
          · skip
            have b289 : IV (gV τ274 22 0 16) 0 0 := ⟨by omega, by omega⟩
            have v290 : CuM T N (tE T N (tE T N (tE T N (tE T N i)))) τ274 := ⟨h280_3, h280_4⟩
            clear h280_3
            show MW p l e _ s m args below meth c _ 2 G 0 0 86 [some (.ref (G.1 22 0)), some (.int (gV σ 23 0 188))] [] τ274
            exact m_vret C hr hlk (by decide) (by decide) dX12_takeStone_86 ⟨rfl, i275, g279, (by have qd := sto_ok T N cc i (by omega) (by omega) (by omega) (by omega) (by omega) (by omega); exact Or.inr ⟨by omega, by omega, by omega, v290.1, by omega, by omega, v281, h280_5⟩)⟩
  · have f291 : (gV σ 23 0 188).toInt = 4 := by
      have q : _ := c8
      simp only [ti_nle, ti_nlt, ti_le, ti_lt, ti_eq, ti_ne, Classical.not_not, kt_4] at q
      omega
    have b292 : IV (gV σ 23 0 188) 4 4 := ⟨by have q1 := u4; have q2 := kc_4; omega, by have q1 := u4; have q2 := kc_4; omega⟩
    refine m_aload_n C dX12_takeStone_14 rfl rfl ?_
    refine m_iconst (v := 3) C dX12_takeStone_15 (by decide) ?_
    refine p_22_16 C q4_132 dX12_takeStone_16 ?_
    refine m_tops (fun τ293 eτ293 => ?_)
    have i294 : Inv τ293 := eτ293 ▸ Inv.putF hI (by decide) rfl
    have f295 : Fr MS_X12_takeStoneE AS_X12_takeStoneE σ τ293 := eτ293 ▸ Fr.put (Fr.rf) (Or.inl (by decide))
    have v296 : Pb τ293 := hPb.put eτ293 (Or.inl (by decide))
    have v297 : TpM τ293 T N := hT.put eτ293 (Or.inr (by decide)) (by decide)
    have v298 : τ293.2.2.1 = σ.2.2.1 := by rw [eτ293]; rfl
    have v299 : CuM T N i τ293 := CuM.put hcur eτ293 (Or.inr (by decide))
    have q300 : (gV τ293 22 0 11).toInt = (gV σ 22 0 11).toInt := congrArg Int32.toInt (show (gV τ293 22 0 11) = (gV σ 22 0 11) from (show gV τ293 22 0 11 = (gV σ 22 0 11) from gV_put eτ293 rfl))
    have q301 : (gV τ293 22 0 12).toInt = (gV σ 22 0 12).toInt := congrArg Int32.toInt (show (gV τ293 22 0 12) = (gV σ 22 0 12) from (show gV τ293 22 0 12 = (gV σ 22 0 12) from gV_put eτ293 rfl))
    have q302 : (gV τ293 22 0 6).toInt = (gV σ 22 0 6).toInt := congrArg Int32.toInt (show (gV τ293 22 0 6) = (gV σ 22 0 6) from (show gV τ293 22 0 6 = (gV σ 22 0 6) from gV_put eτ293 rfl))
    have q303 : (gV τ293 23 0 150).toInt = (gV σ 23 0 150).toInt := congrArg Int32.toInt (show (gV τ293 23 0 150) = (gV σ 23 0 150) from (show gV τ293 23 0 150 = (gV σ 23 0 150) from gV_put eτ293 rfl))
    have q304 : (gV τ293 23 0 152).toInt = (gV σ 23 0 152).toInt := congrArg Int32.toInt (show (gV τ293 23 0 152) = (gV σ 23 0 152) from (show gV τ293 23 0 152 = (gV σ 23 0 152) from gV_put eτ293 rfl))
    have q305 : (gV τ293 23 0 188).toInt = (gV σ 23 0 188).toInt := congrArg Int32.toInt (show (gV τ293 23 0 188) = (gV σ 23 0 188) from (show gV τ293 23 0 188 = (gV σ 23 0 188) from gV_put eτ293 rfl))
    have q306 : (gV τ293 22 0 16).toInt = 3 := (congrArg Int32.toInt (show (gV τ293 22 0 16) = 3 from (show gV τ293 22 0 16 = 3 from gV_put eτ293 (gV_self _ _ _ _ _)))).trans kt_3
    exact m_vret C hr hlk (by decide) (by decide) dX12_takeStone_19 ⟨rfl, i294, f295, (by have qd := sto_0 T N cc i (by omega); exact Or.inl ⟨by omega, by omega, by omega, by omega, by omega, by omega, v296⟩)⟩

abbrev MS_X12_towerT : List (Nat × Nat) := [(22, 6), (22, 7), (22, 9), (22, 11), (22, 12), (22, 13), (22, 15), (22, 16)]
abbrev AS_X12_towerT : List Nat := [23]
set_option maxHeartbeats 4000000 in
set_option maxRecDepth 100000 in
theorem c_X12_towerT (l : Launch) (G : Gt) (σ : Sg) (T : Nat → Int) (N : Nat) (hI : Inv σ) (hT : TpM σ T N) : Mc l G yX12_tower cX12_tower 2 (some .int) 4 92 0 0 [.ref (G.1 22 0)] σ (PI fun r τ => Inv τ ∧ Fr MS_X12_towerT AS_X12_towerT σ τ ∧ IV r (-1000500) 7 ∧ ((r.toInt = -1000100 - outP T N ∧ outF T N ≠ 0 ∧ (gV τ 22 0 7).toInt = outF T N ∧ (gV τ 22 0 6).toInt = 0) ∨ (r.toInt = outN T N ∧ outF T N = 0 ∧ (gV τ 22 0 7).toInt = (gV σ 22 0 7).toInt ∧ (gV τ 22 0 6).toInt = 0))) := by
  refine Mc.of (L0 := [some (.ref (G.1 22 0)), none]) (by decide) (Nat.le_of_ble_eq_true rfl) rfl ?_
  intro p e s m args below meth c C hr hlk
  have C : Cx p s m args c cX12_tower 2 "LeanTowerModel" := C
  have k0 : (0 : Int32).toInt = 0 := by decide
  have k1 : (1 : Int32).toInt = 1 := by decide
  have J75 : ∀ (n : Nat) (τ : Sg) (q75 : Nat), Inv τ → Fr MS_X12_towerT AS_X12_towerT σ τ → (TpM τ T N) → ((((gV τ 22 0 16).toInt = 0 ∧ CuM T N q75 τ ∧ (gV τ 22 0 11).toInt ≤ (gV τ 22 0 6).toInt ∧ Pb τ ∧ LW T N q75 τ.2.2.1 ∧ SI_ T N (gV τ 23 0 152).toInt.toNat (gV τ 23 0 188).toInt.toNat q75) ∨ ((1 ≤ (gV τ 22 0 16).toInt ∧ (gV τ 22 0 16).toInt ≤ 3) ∧ outF T N = (gV τ 22 0 16).toInt ∧ ((gV τ 22 0 12).toInt = outP T N ∧ 0 ≤ outP T N ∧ (gV τ 22 0 12).toInt ≤ 400) ∧ (gV τ 22 0 11).toInt ≤ (gV τ 22 0 6).toInt ∧ 0 ≤ (gV τ 23 0 152).toInt ∧ (gV τ 23 0 152).toInt ≤ 7 ∧ 0 ≤ (gV τ 23 0 188).toInt ∧ (gV τ 23 0 188).toInt ≤ 4))) → (2 * (5 - (gV τ 23 0 188).toInt) + 1 - min 1 (max (gV τ 22 0 16).toInt (-(gV τ 22 0 16).toInt))).toNat < n → MW p l e { frames := 4, cells := 0, slots := 0, locals := 92 } s m args below meth c (MQ below (QP G (PI fun r τ => Inv τ ∧ Fr MS_X12_towerT AS_X12_towerT σ τ ∧ IV r (-1000500) 7 ∧ ((r.toInt = -1000100 - outP T N ∧ outF T N ≠ 0 ∧ (gV τ 22 0 7).toInt = outF T N ∧ (gV τ 22 0 6).toInt = 0) ∨ (r.toInt = outN T N ∧ outF T N = 0 ∧ (gV τ 22 0 7).toInt = (gV σ 22 0 7).toInt ∧ (gV τ 22 0 6).toInt = 0)))) args s 0 0 (aG G)) 2 G 0 0 75 [some (.ref (G.1 22 0)), none] [] τ := by
    intro n
    induction n with
    | zero => intro τ q75 iτ fτ v_T nR hm; exact absurd hm (Nat.not_lt_zero _)
    | succ n ih75 =>
      intro τ q75 iτ fτ v_T nR hm75
      have u1 : IV (gV τ 22 0 11) 0 400 := iτ.1 22 0 11
      have u2 : IV (gV τ 22 0 6) 0 400 := iτ.1 22 0 6
      have u3 : IV (gV τ 23 0 152) 0 7 := iτ.1 23 0 152
      have u4 : IV (gV τ 23 0 188) 0 4 := iτ.1 23 0 188
      have u5 : IV (gV τ 23 0 2) 0 7 := iτ.1 23 0 2
      have q6 : (gV τ 22 0 6).toInt = (N : Int) := v_T.1
      have q7 := v_T.2.1
      rcases nR with ⟨n0_, n1_, n2_, nb, nw, nP⟩ | ⟨n0_, n1_, n2_, n3_, n4_, n5_, n6_, n7_⟩
      · skip
        have b8 : IV (gV τ 22 0 16) 0 0 := ⟨by omega, by omega⟩
        refine m_aload_n C dX12_tower_75 rfl rfl ?_
        refine g_22_16 C q4_132 dX12_tower_76 ?_
        refine m_eqs (w := (gV τ 22 0 16)) rfl ?_
        refine m_if_ne (tgt := 107) C dX12_tower_79 (by decide) (fun c9 => ?_) (fun c9 => ?_)
        · exfalso
          have q : _ := c9
          simp only [ti_nle, ti_nlt, ti_le, ti_lt, ti_eq, ti_ne, Classical.not_not, kt_0] at q
          have q1 := b8; have q2 := kc_0; omega
        · have f11 : (gV τ 22 0 16).toInt = 0 := by
            have q : _ := c9
            simp only [ti_nle, ti_nlt, ti_le, ti_lt, ti_eq, ti_ne, Classical.not_not, kt_0] at q
            omega
          refine m_aload_n C dX12_tower_82 rfl rfl ?_
          refine g_22_13 C q4_129 dX12_tower_83 ?_
          refine m_topi (fun x12 ex12 => ?_)
          have q13 : (x12.toInt = 0 ↔ tK T N q75 = 1) := by have qc := n1_.1; rw [ex12]; omega
          have q14 : (x12.toInt = 4 ↔ tK T N q75 = 0) := by have qc := n1_.1; rw [ex12]; omega
          refine m_if_ne (tgt := 107) C dX12_tower_86 (by decide) (fun c15 => ?_) (fun c15 => ?_)
          · have f16 : x12.toInt ≠ 0 := by
              have q : _ := c15
              simp only [ti_nle, ti_nlt, ti_le, ti_lt, ti_eq, ti_ne, Classical.not_not, kt_0] at q
              omega
            have q17 := nP.no (by omega)
            have q18 : (gV τ 22 0 12).toInt = (tS T q75 : Int) ∧ (gV τ 22 0 12).toInt ≤ 400 := ⟨n1_.1.1, n1_.1.2.2.2.2.2.2⟩
            refine m_aload_n C dX12_tower_107 rfl rfl ?_
            refine m_aload_n C dX12_tower_108 rfl rfl ?_
            refine g_22_16 C q4_132 dX12_tower_109 ?_
            refine m_eqs (w := (gV τ 22 0 16)) rfl ?_
            refine m_if_ne (tgt := 127) C dX12_tower_112 (by decide) (fun c19 => ?_) (fun c19 => ?_)
            · exfalso
              have q : _ := c19
              simp only [ti_nle, ti_nlt, ti_le, ti_lt, ti_eq, ti_ne, Classical.not_not, kt_0] at q
              have q1 := b8; have q2 := kc_0; omega
            · have f21 : (gV τ 22 0 16).toInt = 0 := by
                have q : _ := c19
                simp only [ti_nle, ti_nlt, ti_le, ti_lt, ti_eq, ti_ne, Classical.not_not, kt_0] at q
                omega
              refine m_aload_n C dX12_tower_115 rfl rfl ?_
              refine g_22_13 C q4_129 dX12_tower_116 ?_
              refine m_eqs (w := x12) ex12.symm ?_
              have q22 : (x12.toInt = 0 ↔ tK T N q75 = 1) := by have qc := n1_.1; rw [ex12]; omega
              have q23 : (x12.toInt = 4 ↔ tK T N q75 = 0) := by have qc := n1_.1; rw [ex12]; omega
              refine m_iconst (v := 4) C dX12_tower_119 (by decide) ?_
              refine m_icmp_eq (tgt := 127) C dX12_tower_120 (by decide) (fun c24 => ?_) (fun c24 => ?_)
              · have f25 : x12.toInt = 4 := by
                  have q : _ := c24
                  simp only [ti_nle, ti_nlt, ti_le, ti_lt, ti_eq, ti_ne, Classical.not_not, kt_4] at q
                  omega
                have b26 : IV x12 4 4 := ⟨by have q1 := (iv_any x12); have q2 := kc_4; omega, by have q1 := (iv_any x12); have q2 := kc_4; omega⟩
                refine m_aload_n C dX12_tower_127 rfl rfl ?_
                refine g_22_16 C q4_132 dX12_tower_128 ?_
                refine m_eqs (w := (gV τ 22 0 16)) rfl ?_
                refine p_22_16 C q4_132 dX12_tower_131 ?_
                refine m_tops (fun τ27 eτ27 => ?_)
                have i28 : Inv τ27 := eτ27 ▸ Inv.putF iτ (by decide) rfl
                have f29 : Fr MS_X12_towerT AS_X12_towerT σ τ27 := eτ27 ▸ Fr.put (fτ) (Or.inl (by decide))
                have v30 : TpM τ27 T N := v_T.put eτ27 (Or.inr (by decide)) (by decide)
                have v31 : τ27.2.2.1 = τ.2.2.1 := by rw [eτ27]; rfl
                have v32 : LW T N q75 τ27.2.2.1 := by rw [eτ27]; exact nw
                have v33 : CuM T N q75 τ27 := CuM.put n1_ eτ27 (Or.inr (by decide))
                have v34 : Pb τ27 := nb.put eτ27 (Or.inl (by decide))
                refine m_aload_n C dX12_tower_134 rfl rfl ?_
                refine m_iconst (v := 0) C dX12_tower_135 (by decide) ?_
                refine p_22_6 C q4_122 dX12_tower_136 ?_
                refine m_tops (fun τ35 eτ35 => ?_)
                have i36 : Inv τ35 := eτ35 ▸ Inv.put i28 (by decide) (iv_wk kc_0 (by decide))
                have f37 : Fr MS_X12_towerT AS_X12_towerT σ τ35 := eτ35 ▸ Fr.put (f29) (Or.inl (by decide))
                have v39 : τ35.2.2.1 = τ.2.2.1 := by rw [eτ35]; exact v31
                have v40 : LW T N q75 τ35.2.2.1 := by rw [eτ35]; exact v32
                have v41 : Pb τ35 := v34.put eτ35 (Or.inl (by decide))
                refine m_aload_n C dX12_tower_139 rfl rfl ?_
                refine g_22_16 C q4_132 dX12_tower_140 ?_
                refine m_eqs (w := (gV τ 22 0 16)) (show gV τ35 22 0 16 = (gV τ 22 0 16) from gV_put eτ35 (show gV τ27 22 0 16 = (gV τ 22 0 16) from gV_put eτ27 (gV_self _ _ _ _ _))) ?_
                refine m_if_eq (tgt := 162) C dX12_tower_143 (by decide) (fun c42 => ?_) (fun c42 => ?_)
                · have f43 : (gV τ 22 0 16).toInt = 0 := by
                    have q : _ := c42
                    simp only [ti_nle, ti_nlt, ti_le, ti_lt, ti_eq, ti_ne, Classical.not_not, kt_0] at q
                    omega
                  refine m_aload_n C dX12_tower_162 rfl rfl ?_
                  refine m_sipush (v := 150) C dX12_tower_163 (by decide) ?_
                  refine m_iconst (v := 0) C dX12_tower_166 (by decide) ?_
                  have q44 : (gV τ35 22 0 11).toInt = (gV τ 22 0 11).toInt := congrArg Int32.toInt (show (gV τ35 22 0 11) = (gV τ 22 0 11) from (show gV τ35 22 0 11 = (gV τ 22 0 11) from gV_put eτ35 (show gV τ27 22 0 11 = (gV τ 22 0 11) from gV_put eτ27 rfl)))
                  have q45 : (gV τ35 22 0 12).toInt = (gV τ 22 0 12).toInt := congrArg Int32.toInt (show (gV τ35 22 0 12) = (gV τ 22 0 12) from (show gV τ35 22 0 12 = (gV τ 22 0 12) from gV_put eτ35 (show gV τ27 22 0 12 = (gV τ 22 0 12) from gV_put eτ27 rfl)))
                  have q46 : (gV τ35 22 0 7).toInt = (gV τ 22 0 7).toInt := congrArg Int32.toInt (show (gV τ35 22 0 7) = (gV τ 22 0 7) from (show gV τ35 22 0 7 = (gV τ 22 0 7) from gV_put eτ35 (show gV τ27 22 0 7 = (gV τ 22 0 7) from gV_put eτ27 rfl)))
                  have q47 : (gV τ35 23 0 150).toInt = (gV τ 23 0 150).toInt := congrArg Int32.toInt (show (gV τ35 23 0 150) = (gV τ 23 0 150) from (show gV τ35 23 0 150 = (gV τ 23 0 150) from gV_put eτ35 (show gV τ27 23 0 150 = (gV τ 23 0 150) from gV_put eτ27 rfl)))
                  have q48 : (gV τ35 23 0 152).toInt = (gV τ 23 0 152).toInt := congrArg Int32.toInt (show (gV τ35 23 0 152) = (gV τ 23 0 152) from (show gV τ35 23 0 152 = (gV τ 23 0 152) from gV_put eτ35 (show gV τ27 23 0 152 = (gV τ 23 0 152) from gV_put eτ27 rfl)))
                  have q49 : (gV τ35 23 0 188).toInt = (gV τ 23 0 188).toInt := congrArg Int32.toInt (show (gV τ35 23 0 188) = (gV τ 23 0 188) from (show gV τ35 23 0 188 = (gV τ 23 0 188) from gV_put eτ35 (show gV τ27 23 0 188 = (gV τ 23 0 188) from gV_put eτ27 rfl)))
                  have q50 : (gV τ35 23 0 2).toInt = (gV τ 23 0 2).toInt := congrArg Int32.toInt (show (gV τ35 23 0 2) = (gV τ 23 0 2) from (show gV τ35 23 0 2 = (gV τ 23 0 2) from gV_put eτ35 (show gV τ27 23 0 2 = (gV τ 23 0 2) from gV_put eτ27 rfl)))
                  have q51 : (gV τ35 22 0 16).toInt = (gV τ 22 0 16).toInt := congrArg Int32.toInt (show (gV τ35 22 0 16) = (gV τ 22 0 16) from (show gV τ35 22 0 16 = (gV τ 22 0 16) from gV_put eτ35 (show gV τ27 22 0 16 = (gV τ 22 0 16) from gV_put eτ27 (gV_self _ _ _ _ _))))
                  have q52 : (gV τ35 22 0 6).toInt = 0 := (congrArg Int32.toInt (show (gV τ35 22 0 6) = 0 from (show gV τ35 22 0 6 = 0 from gV_put eτ35 (gV_self _ _ _ _ _)))).trans kt_0
                  have q53 := kt_150
                  have q54 := kt_0
                  refine m_callV (n := 2) (ci := 11) (st := []) C (c_X12_copyAll l G τ35 (150) (0) i36 (iv_wk kc_150 (by decide)) (iv_wk kc_0 (by decide)) (by omega) (by omega) (by omega) (Or.inr v41)) (by decide) (by decide) rfl rfl rfl q5_38 q5_35 q5_37 q0_35 q1_7 (by decide +kernel) rfl (by decide) (by decide) rfl (Nat.le_of_ble_eq_true rfl) dX12_tower_167 ?_
                  rintro _ τ55 ⟨rfl, i56, f57, h61⟩
                  have g60 : Fr MS_X12_towerT AS_X12_towerT σ τ55 := Fr.call (f37) f57 (by decide)
                  have u62 : IV (gV τ55 23 0 152) 0 7 := i56.1 23 0 152
                  have u63 : IV (gV τ55 23 0 188) 0 4 := i56.1 23 0 188
                  have u64 : IV (gV τ55 23 0 2) 0 7 := i56.1 23 0 2
                  have q65 : (gV τ55 22 0 11).toInt = (gV τ 22 0 11).toInt := congrArg Int32.toInt (show (gV τ55 22 0 11) = (gV τ 22 0 11) from (show gV τ55 22 0 11 = (gV τ 22 0 11) from (f57.1 22 0 (11) (by decide) (by decide)).trans (show gV τ35 22 0 11 = (gV τ 22 0 11) from gV_put eτ35 (show gV τ27 22 0 11 = (gV τ 22 0 11) from gV_put eτ27 rfl))))
                  have q66 : (gV τ55 22 0 12).toInt = (gV τ 22 0 12).toInt := congrArg Int32.toInt (show (gV τ55 22 0 12) = (gV τ 22 0 12) from (show gV τ55 22 0 12 = (gV τ 22 0 12) from (f57.1 22 0 (12) (by decide) (by decide)).trans (show gV τ35 22 0 12 = (gV τ 22 0 12) from gV_put eτ35 (show gV τ27 22 0 12 = (gV τ 22 0 12) from gV_put eτ27 rfl))))
                  have q67 : (gV τ55 22 0 7).toInt = (gV τ 22 0 7).toInt := congrArg Int32.toInt (show (gV τ55 22 0 7) = (gV τ 22 0 7) from (show gV τ55 22 0 7 = (gV τ 22 0 7) from (f57.1 22 0 (7) (by decide) (by decide)).trans (show gV τ35 22 0 7 = (gV τ 22 0 7) from gV_put eτ35 (show gV τ27 22 0 7 = (gV τ 22 0 7) from gV_put eτ27 rfl))))
                  have q68 : (gV τ55 22 0 16).toInt = (gV τ 22 0 16).toInt := congrArg Int32.toInt (show (gV τ55 22 0 16) = (gV τ 22 0 16) from (show gV τ55 22 0 16 = (gV τ 22 0 16) from (f57.1 22 0 (16) (by decide) (by decide)).trans (show gV τ35 22 0 16 = (gV τ 22 0 16) from gV_put eτ35 (show gV τ27 22 0 16 = (gV τ 22 0 16) from gV_put eτ27 (gV_self _ _ _ _ _)))))
                  have q69 : (gV τ55 22 0 6).toInt = 0 := (congrArg Int32.toInt (show (gV τ55 22 0 6) = 0 from (show gV τ55 22 0 6 = 0 from (f57.1 22 0 (6) (by decide) (by decide)).trans (show gV τ35 22 0 6 = 0 from gV_put eτ35 (gV_self _ _ _ _ _))))).trans kt_0
                  have q70 : (gV τ55 23 0 2).toInt = (gV τ35 23 0 152).toInt := congrArg Int32.toInt (h61.2.1 2 (by decide))
                  show MW p l e _ s m args below meth c _ 2 G 0 0 170 [some (.ref (G.1 22 0)), none] [] τ55
                  refine m_aload_n C dX12_tower_170 rfl rfl ?_
                  refine m_iconst (v := 0) C dX12_tower_171 (by decide) ?_
                  refine p_22_9 C q4_125 dX12_tower_172 ?_
                  refine m_tops (fun τ71 eτ71 => ?_)
                  have i72 : Inv τ71 := eτ71 ▸ Inv.put i56 (by decide) (iv_wk kc_0 (by decide))
                  have f73 : Fr MS_X12_towerT AS_X12_towerT σ τ71 := eτ71 ▸ Fr.put (g60) (Or.inl (by decide))
                  have v74 : Pb τ71 := v41.put eτ71 (Or.inl (by decide))
                  refine m_aload_n C dX12_tower_175 rfl rfl ?_
                  refine g_22_0 C q4_116 dX12_tower_176 ?_
                  refine m_iconst (v := 2) C dX12_tower_179 (by decide) ?_
                  refine al_23 C kc_2 (by decide) kn_2 dX12_tower_180 ?_
                  refine m_eqs (w := (gV τ55 23 0 2)) (show gV τ71 23 0 2 = (gV τ55 23 0 2) from gV_put eτ71 rfl) ?_
                  have q75 : (gV τ71 22 0 11).toInt = (gV τ 22 0 11).toInt := congrArg Int32.toInt (show (gV τ71 22 0 11) = (gV τ 22 0 11) from (show gV τ71 22 0 11 = (gV τ 22 0 11) from gV_put eτ71 (show gV τ55 22 0 11 = (gV τ 22 0 11) from (f57.1 22 0 (11) (by decide) (by decide)).trans (show gV τ35 22 0 11 = (gV τ 22 0 11) from gV_put eτ35 (show gV τ27 22 0 11 = (gV τ 22 0 11) from gV_put eτ27 rfl)))))
                  have q76 : (gV τ71 22 0 12).toInt = (gV τ 22 0 12).toInt := congrArg Int32.toInt (show (gV τ71 22 0 12) = (gV τ 22 0 12) from (show gV τ71 22 0 12 = (gV τ 22 0 12) from gV_put eτ71 (show gV τ55 22 0 12 = (gV τ 22 0 12) from (f57.1 22 0 (12) (by decide) (by decide)).trans (show gV τ35 22 0 12 = (gV τ 22 0 12) from gV_put eτ35 (show gV τ27 22 0 12 = (gV τ 22 0 12) from gV_put eτ27 rfl)))))
                  have q77 : (gV τ71 22 0 7).toInt = (gV τ 22 0 7).toInt := congrArg Int32.toInt (show (gV τ71 22 0 7) = (gV τ 22 0 7) from (show gV τ71 22 0 7 = (gV τ 22 0 7) from gV_put eτ71 (show gV τ55 22 0 7 = (gV τ 22 0 7) from (f57.1 22 0 (7) (by decide) (by decide)).trans (show gV τ35 22 0 7 = (gV τ 22 0 7) from gV_put eτ35 (show gV τ27 22 0 7 = (gV τ 22 0 7) from gV_put eτ27 rfl)))))
                  have q78 : (gV τ71 22 0 16).toInt = (gV τ 22 0 16).toInt := congrArg Int32.toInt (show (gV τ71 22 0 16) = (gV τ 22 0 16) from (show gV τ71 22 0 16 = (gV τ 22 0 16) from gV_put eτ71 (show gV τ55 22 0 16 = (gV τ 22 0 16) from (f57.1 22 0 (16) (by decide) (by decide)).trans (show gV τ35 22 0 16 = (gV τ 22 0 16) from gV_put eτ35 (show gV τ27 22 0 16 = (gV τ 22 0 16) from gV_put eτ27 (gV_self _ _ _ _ _))))))
                  have q79 : (gV τ71 22 0 6).toInt = 0 := (congrArg Int32.toInt (show (gV τ71 22 0 6) = 0 from (show gV τ71 22 0 6 = 0 from gV_put eτ71 (show gV τ55 22 0 6 = 0 from (f57.1 22 0 (6) (by decide) (by decide)).trans (show gV τ35 22 0 6 = 0 from gV_put eτ35 (gV_self _ _ _ _ _)))))).trans kt_0
                  have q80 : (gV τ71 23 0 150).toInt = (gV τ55 23 0 150).toInt := congrArg Int32.toInt (show (gV τ71 23 0 150) = (gV τ55 23 0 150) from (show gV τ71 23 0 150 = (gV τ55 23 0 150) from gV_put eτ71 rfl))
                  have q81 : (gV τ71 23 0 152).toInt = (gV τ55 23 0 152).toInt := congrArg Int32.toInt (show (gV τ71 23 0 152) = (gV τ55 23 0 152) from (show gV τ71 23 0 152 = (gV τ55 23 0 152) from gV_put eτ71 rfl))
                  have q82 : (gV τ71 23 0 188).toInt = (gV τ55 23 0 188).toInt := congrArg Int32.toInt (show (gV τ71 23 0 188) = (gV τ55 23 0 188) from (show gV τ71 23 0 188 = (gV τ55 23 0 188) from gV_put eτ71 rfl))
                  have q83 : (gV τ71 23 0 2).toInt = (gV τ55 23 0 2).toInt := congrArg Int32.toInt (show (gV τ71 23 0 2) = (gV τ55 23 0 2) from (show gV τ71 23 0 2 = (gV τ55 23 0 2) from gV_put eτ71 rfl))
                  exact m_iret C hr hlk (by decide) (by decide) dX12_tower_181 ⟨_, rfl, i72, f73, (iv_wk u64 (by decide)), (Or.inr (⟨by omega, by omega, by omega, by omega⟩))⟩
                · exfalso
                  have q : _ := c42
                  simp only [ti_nle, ti_nlt, ti_le, ti_lt, ti_eq, ti_ne, Classical.not_not, kt_0] at q
                  have q1 := b8; have q2 := kc_0; omega
              · have f85 : x12.toInt ≠ 4 := by
                  have q : _ := c24
                  simp only [ti_nle, ti_nlt, ti_le, ti_lt, ti_eq, ti_ne, Classical.not_not, kt_4] at q
                  omega
                refine m_iconst (v := 1) C dX12_tower_123 (by decide) ?_
                refine m_goto (tgt := 131) C dX12_tower_124 (by decide) ?_
                refine p_22_16 C q4_132 dX12_tower_131 ?_
                refine m_tops (fun τ86 eτ86 => ?_)
                have i87 : Inv τ86 := eτ86 ▸ Inv.putF iτ (by decide) rfl
                have f88 : Fr MS_X12_towerT AS_X12_towerT σ τ86 := eτ86 ▸ Fr.put (fτ) (Or.inl (by decide))
                have v89 : TpM τ86 T N := v_T.put eτ86 (Or.inr (by decide)) (by decide)
                have v90 : τ86.2.2.1 = τ.2.2.1 := by rw [eτ86]; rfl
                have v91 : LW T N q75 τ86.2.2.1 := by rw [eτ86]; exact nw
                have v92 : CuM T N q75 τ86 := CuM.put n1_ eτ86 (Or.inr (by decide))
                have v93 : Pb τ86 := nb.put eτ86 (Or.inl (by decide))
                refine m_aload_n C dX12_tower_134 rfl rfl ?_
                refine m_iconst (v := 0) C dX12_tower_135 (by decide) ?_
                refine p_22_6 C q4_122 dX12_tower_136 ?_
                refine m_tops (fun τ94 eτ94 => ?_)
                have i95 : Inv τ94 := eτ94 ▸ Inv.put i87 (by decide) (iv_wk kc_0 (by decide))
                have f96 : Fr MS_X12_towerT AS_X12_towerT σ τ94 := eτ94 ▸ Fr.put (f88) (Or.inl (by decide))
                have v98 : τ94.2.2.1 = τ.2.2.1 := by rw [eτ94]; exact v90
                have v99 : LW T N q75 τ94.2.2.1 := by rw [eτ94]; exact v91
                have v100 : Pb τ94 := v93.put eτ94 (Or.inl (by decide))
                refine m_aload_n C dX12_tower_139 rfl rfl ?_
                refine g_22_16 C q4_132 dX12_tower_140 ?_
                refine m_eqs (w := 1) (show gV τ94 22 0 16 = 1 from gV_put eτ94 (show gV τ86 22 0 16 = 1 from gV_put eτ86 (gV_self _ _ _ _ _))) ?_
                refine m_if_eq (tgt := 162) C dX12_tower_143 (by decide) (fun c101 => ?_) (fun c101 => ?_)
                · first | exact absurd c101 (by decide) | exact absurd (by decide) c101
                · have f103 : 1 ≠ 0 := by
                    have q : _ := c101
                    simp only [ti_nle, ti_nlt, ti_le, ti_lt, ti_eq, ti_ne, Classical.not_not, kt_1, kt_0] at q
                    omega
                  refine m_aload_n C dX12_tower_146 rfl rfl ?_
                  refine m_aload_n C dX12_tower_147 rfl rfl ?_
                  refine g_22_16 C q4_132 dX12_tower_148 ?_
                  refine m_eqs (w := 1) (show gV τ94 22 0 16 = 1 from gV_put eτ94 (show gV τ86 22 0 16 = 1 from gV_put eτ86 (gV_self _ _ _ _ _))) ?_
                  refine p_22_7 C q4_123 dX12_tower_151 ?_
                  refine m_tops (fun τ104 eτ104 => ?_)
                  have i105 : Inv τ104 := eτ104 ▸ Inv.putF i95 (by decide) rfl
                  have f106 : Fr MS_X12_towerT AS_X12_towerT σ τ104 := eτ104 ▸ Fr.put (f96) (Or.inl (by decide))
                  have v107 : τ104.2.2.1 = τ.2.2.1 := by rw [eτ104]; exact v98
                  have v108 : LW T N q75 τ104.2.2.1 := by rw [eτ104]; exact v99
                  have v109 : Pb τ104 := v100.put eτ104 (Or.inl (by decide))
                  refine m_ldc (v := (-1000100)) C dX12_tower_154 q5_34 ?_
                  refine m_aload_n C dX12_tower_156 rfl rfl ?_
                  refine g_22_12 C q4_128 dX12_tower_157 ?_
                  refine m_eqs (w := (gV τ 22 0 12)) (show gV τ104 22 0 12 = (gV τ 22 0 12) from gV_put eτ104 (show gV τ94 22 0 12 = (gV τ 22 0 12) from gV_put eτ94 (show gV τ86 22 0 12 = (gV τ 22 0 12) from gV_put eτ86 rfl))) ?_
                  have q110 : (gV τ104 22 0 11).toInt = (gV τ 22 0 11).toInt := congrArg Int32.toInt (show (gV τ104 22 0 11) = (gV τ 22 0 11) from (show gV τ104 22 0 11 = (gV τ 22 0 11) from gV_put eτ104 (show gV τ94 22 0 11 = (gV τ 22 0 11) from gV_put eτ94 (show gV τ86 22 0 11 = (gV τ 22 0 11) from gV_put eτ86 rfl))))
                  have q111 : (gV τ104 22 0 12).toInt = (gV τ 22 0 12).toInt := congrArg Int32.toInt (show (gV τ104 22 0 12) = (gV τ 22 0 12) from (show gV τ104 22 0 12 = (gV τ 22 0 12) from gV_put eτ104 (show gV τ94 22 0 12 = (gV τ 22 0 12) from gV_put eτ94 (show gV τ86 22 0 12 = (gV τ 22 0 12) from gV_put eτ86 rfl))))
                  have q112 : (gV τ104 23 0 150).toInt = (gV τ 23 0 150).toInt := congrArg Int32.toInt (show (gV τ104 23 0 150) = (gV τ 23 0 150) from (show gV τ104 23 0 150 = (gV τ 23 0 150) from gV_put eτ104 (show gV τ94 23 0 150 = (gV τ 23 0 150) from gV_put eτ94 (show gV τ86 23 0 150 = (gV τ 23 0 150) from gV_put eτ86 rfl))))
                  have q113 : (gV τ104 23 0 152).toInt = (gV τ 23 0 152).toInt := congrArg Int32.toInt (show (gV τ104 23 0 152) = (gV τ 23 0 152) from (show gV τ104 23 0 152 = (gV τ 23 0 152) from gV_put eτ104 (show gV τ94 23 0 152 = (gV τ 23 0 152) from gV_put eτ94 (show gV τ86 23 0 152 = (gV τ 23 0 152) from gV_put eτ86 rfl))))
                  have q114 : (gV τ104 23 0 188).toInt = (gV τ 23 0 188).toInt := congrArg Int32.toInt (show (gV τ104 23 0 188) = (gV τ 23 0 188) from (show gV τ104 23 0 188 = (gV τ 23 0 188) from gV_put eτ104 (show gV τ94 23 0 188 = (gV τ 23 0 188) from gV_put eτ94 (show gV τ86 23 0 188 = (gV τ 23 0 188) from gV_put eτ86 rfl))))
                  have q115 : (gV τ104 23 0 2).toInt = (gV τ 23 0 2).toInt := congrArg Int32.toInt (show (gV τ104 23 0 2) = (gV τ 23 0 2) from (show gV τ104 23 0 2 = (gV τ 23 0 2) from gV_put eτ104 (show gV τ94 23 0 2 = (gV τ 23 0 2) from gV_put eτ94 (show gV τ86 23 0 2 = (gV τ 23 0 2) from gV_put eτ86 rfl))))
                  have q116 : (gV τ104 22 0 16).toInt = 1 := (congrArg Int32.toInt (show (gV τ104 22 0 16) = 1 from (show gV τ104 22 0 16 = 1 from gV_put eτ104 (show gV τ94 22 0 16 = 1 from gV_put eτ94 (show gV τ86 22 0 16 = 1 from gV_put eτ86 (gV_self _ _ _ _ _)))))).trans kt_1
                  have q117 : (gV τ104 22 0 6).toInt = 0 := (congrArg Int32.toInt (show (gV τ104 22 0 6) = 0 from (show gV τ104 22 0 6 = 0 from gV_put eτ104 (show gV τ94 22 0 6 = 0 from gV_put eτ94 (gV_self _ _ _ _ _))))).trans kt_0
                  have q118 : (gV τ104 22 0 7).toInt = 1 := (congrArg Int32.toInt (show (gV τ104 22 0 7) = 1 from (show gV τ104 22 0 7 = 1 from gV_put eτ104 (gV_self _ _ _ _ _)))).trans kt_1
                  have b119 : IV (gV τ 22 0 12) 0 400 := ⟨by have q1 := (iv_any (gV τ 22 0 12)); omega, by have q1 := (iv_any (gV τ 22 0 12)); omega⟩
                  refine m_isub C dX12_tower_160 ?_
                  refine m_topi (fun x120 ex120 => ?_)
                  have tx120 : x120.toInt = -1000100 - (gV τ 22 0 12).toInt := by rw [ex120, ti_subv kc_m1000100 b119 (by decide), kt_m1000100]
                  have b121 : IV x120 (-1000500) (-1000100) := by rw [ex120]; exact iv_sub kc_m1000100 b119 (by decide)
                  exact m_iret C hr hlk (by decide) (by decide) dX12_tower_161 ⟨_, rfl, i105, f106, (iv_wk b121 (by decide)), (Or.inl ⟨by omega, by omega, by omega, by omega⟩)⟩
          · have f122 : x12.toInt = 0 := by
              have q : _ := c15
              simp only [ti_nle, ti_nlt, ti_le, ti_lt, ti_eq, ti_ne, Classical.not_not, kt_0] at q
              omega
            have b123 : IV x12 0 0 := ⟨by have q1 := (iv_any x12); have q2 := kc_0; omega, by have q1 := (iv_any x12); have q2 := kc_0; omega⟩
            refine m_aload_n C dX12_tower_89 rfl rfl ?_
            refine g_22_14 C q4_130 dX12_tower_90 ?_
            refine m_topl (fun w124 ew124 => ?_)
            have q125 : tK T N q75 = 1 := by omega
            have q126 : (w124.toInt = 20594117 ↔ tW T N q75 7 = 1) := by rw [ew124]; exact LW.at7 nw q125
            refine m_ldc2 (v := 20594117) C dX12_tower_93 q5_29 ?_
            refine m_lcmp C dX12_tower_96 ?_
            refine m_topi (fun x127 ex127 => ?_)
            have b128 : IV x127 (-1) 1 := by rw [ex127]; rcases lgc w124 20594117 with q | q | q <;> omega
            have f129 := lgc w124 20594117
            rw [← ex127] at f129
            have f131 := kl_20594117
            refine m_if_ne (tgt := 107) C dX12_tower_97 (by decide) (fun c132 => ?_) (fun c132 => ?_)
            · have f133 : x127.toInt ≠ 0 := by
                have q : _ := c132
                simp only [ti_nle, ti_nlt, ti_le, ti_lt, ti_eq, ti_ne, Classical.not_not, kt_0] at q
                omega
              have q134 := nP.no (by omega)
              have q135 : (gV τ 22 0 12).toInt = (tS T q75 : Int) ∧ (gV τ 22 0 12).toInt ≤ 400 := ⟨n1_.1.1, n1_.1.2.2.2.2.2.2⟩
              refine m_aload_n C dX12_tower_107 rfl rfl ?_
              refine m_aload_n C dX12_tower_108 rfl rfl ?_
              refine g_22_16 C q4_132 dX12_tower_109 ?_
              refine m_eqs (w := (gV τ 22 0 16)) rfl ?_
              refine m_if_ne (tgt := 127) C dX12_tower_112 (by decide) (fun c136 => ?_) (fun c136 => ?_)
              · exfalso
                have q : _ := c136
                simp only [ti_nle, ti_nlt, ti_le, ti_lt, ti_eq, ti_ne, Classical.not_not, kt_0] at q
                have q1 := b8; have q2 := kc_0; omega
              · have f138 : (gV τ 22 0 16).toInt = 0 := by
                  have q : _ := c136
                  simp only [ti_nle, ti_nlt, ti_le, ti_lt, ti_eq, ti_ne, Classical.not_not, kt_0] at q
                  omega
                refine m_aload_n C dX12_tower_115 rfl rfl ?_
                refine g_22_13 C q4_129 dX12_tower_116 ?_
                refine m_eqs (w := x12) ex12.symm ?_
                have q139 : (x12.toInt = 0 ↔ tK T N q75 = 1) := by have qc := n1_.1; rw [ex12]; omega
                have q140 : (x12.toInt = 4 ↔ tK T N q75 = 0) := by have qc := n1_.1; rw [ex12]; omega
                refine m_iconst (v := 4) C dX12_tower_119 (by decide) ?_
                refine m_icmp_eq (tgt := 127) C dX12_tower_120 (by decide) (fun c141 => ?_) (fun c141 => ?_)
                · exfalso
                  have q : _ := c141
                  simp only [ti_nle, ti_nlt, ti_le, ti_lt, ti_eq, ti_ne, Classical.not_not, kt_4] at q
                  have q1 := b123; have q2 := kc_4; omega
                · have f143 : x12.toInt ≠ 4 := by
                    have q : _ := c141
                    simp only [ti_nle, ti_nlt, ti_le, ti_lt, ti_eq, ti_ne, Classical.not_not, kt_4] at q
                    omega
                  refine m_iconst (v := 1) C dX12_tower_123 (by decide) ?_
                  refine m_goto (tgt := 131) C dX12_tower_124 (by decide) ?_
                  refine p_22_16 C q4_132 dX12_tower_131 ?_
                  refine m_tops (fun τ144 eτ144 => ?_)
                  have i145 : Inv τ144 := eτ144 ▸ Inv.putF iτ (by decide) rfl
                  have f146 : Fr MS_X12_towerT AS_X12_towerT σ τ144 := eτ144 ▸ Fr.put (fτ) (Or.inl (by decide))
                  have v147 : TpM τ144 T N := v_T.put eτ144 (Or.inr (by decide)) (by decide)
                  have v148 : τ144.2.2.1 = τ.2.2.1 := by rw [eτ144]; rfl
                  have v149 : LW T N q75 τ144.2.2.1 := by rw [eτ144]; exact nw
                  have v150 : CuM T N q75 τ144 := CuM.put n1_ eτ144 (Or.inr (by decide))
                  have v151 : Pb τ144 := nb.put eτ144 (Or.inl (by decide))
                  refine m_aload_n C dX12_tower_134 rfl rfl ?_
                  refine m_iconst (v := 0) C dX12_tower_135 (by decide) ?_
                  refine p_22_6 C q4_122 dX12_tower_136 ?_
                  refine m_tops (fun τ152 eτ152 => ?_)
                  have i153 : Inv τ152 := eτ152 ▸ Inv.put i145 (by decide) (iv_wk kc_0 (by decide))
                  have f154 : Fr MS_X12_towerT AS_X12_towerT σ τ152 := eτ152 ▸ Fr.put (f146) (Or.inl (by decide))
                  have v156 : τ152.2.2.1 = τ.2.2.1 := by rw [eτ152]; exact v148
                  have v157 : LW T N q75 τ152.2.2.1 := by rw [eτ152]; exact v149
                  have v158 : Pb τ152 := v151.put eτ152 (Or.inl (by decide))
                  refine m_aload_n C dX12_tower_139 rfl rfl ?_
                  refine g_22_16 C q4_132 dX12_tower_140 ?_
                  refine m_eqs (w := 1) (show gV τ152 22 0 16 = 1 from gV_put eτ152 (show gV τ144 22 0 16 = 1 from gV_put eτ144 (gV_self _ _ _ _ _))) ?_
                  refine m_if_eq (tgt := 162) C dX12_tower_143 (by decide) (fun c159 => ?_) (fun c159 => ?_)
                  · first | exact absurd c159 (by decide) | exact absurd (by decide) c159
                  · have f161 : 1 ≠ 0 := by
                      have q : _ := c159
                      simp only [ti_nle, ti_nlt, ti_le, ti_lt, ti_eq, ti_ne, Classical.not_not, kt_1, kt_0] at q
                      omega
                    refine m_aload_n C dX12_tower_146 rfl rfl ?_
                    refine m_aload_n C dX12_tower_147 rfl rfl ?_
                    refine g_22_16 C q4_132 dX12_tower_148 ?_
                    refine m_eqs (w := 1) (show gV τ152 22 0 16 = 1 from gV_put eτ152 (show gV τ144 22 0 16 = 1 from gV_put eτ144 (gV_self _ _ _ _ _))) ?_
                    refine p_22_7 C q4_123 dX12_tower_151 ?_
                    refine m_tops (fun τ162 eτ162 => ?_)
                    have i163 : Inv τ162 := eτ162 ▸ Inv.putF i153 (by decide) rfl
                    have f164 : Fr MS_X12_towerT AS_X12_towerT σ τ162 := eτ162 ▸ Fr.put (f154) (Or.inl (by decide))
                    have v165 : τ162.2.2.1 = τ.2.2.1 := by rw [eτ162]; exact v156
                    have v166 : LW T N q75 τ162.2.2.1 := by rw [eτ162]; exact v157
                    have v167 : Pb τ162 := v158.put eτ162 (Or.inl (by decide))
                    refine m_ldc (v := (-1000100)) C dX12_tower_154 q5_34 ?_
                    refine m_aload_n C dX12_tower_156 rfl rfl ?_
                    refine g_22_12 C q4_128 dX12_tower_157 ?_
                    refine m_eqs (w := (gV τ 22 0 12)) (show gV τ162 22 0 12 = (gV τ 22 0 12) from gV_put eτ162 (show gV τ152 22 0 12 = (gV τ 22 0 12) from gV_put eτ152 (show gV τ144 22 0 12 = (gV τ 22 0 12) from gV_put eτ144 rfl))) ?_
                    have q168 : (gV τ162 22 0 11).toInt = (gV τ 22 0 11).toInt := congrArg Int32.toInt (show (gV τ162 22 0 11) = (gV τ 22 0 11) from (show gV τ162 22 0 11 = (gV τ 22 0 11) from gV_put eτ162 (show gV τ152 22 0 11 = (gV τ 22 0 11) from gV_put eτ152 (show gV τ144 22 0 11 = (gV τ 22 0 11) from gV_put eτ144 rfl))))
                    have q169 : (gV τ162 22 0 12).toInt = (gV τ 22 0 12).toInt := congrArg Int32.toInt (show (gV τ162 22 0 12) = (gV τ 22 0 12) from (show gV τ162 22 0 12 = (gV τ 22 0 12) from gV_put eτ162 (show gV τ152 22 0 12 = (gV τ 22 0 12) from gV_put eτ152 (show gV τ144 22 0 12 = (gV τ 22 0 12) from gV_put eτ144 rfl))))
                    have q170 : (gV τ162 23 0 150).toInt = (gV τ 23 0 150).toInt := congrArg Int32.toInt (show (gV τ162 23 0 150) = (gV τ 23 0 150) from (show gV τ162 23 0 150 = (gV τ 23 0 150) from gV_put eτ162 (show gV τ152 23 0 150 = (gV τ 23 0 150) from gV_put eτ152 (show gV τ144 23 0 150 = (gV τ 23 0 150) from gV_put eτ144 rfl))))
                    have q171 : (gV τ162 23 0 152).toInt = (gV τ 23 0 152).toInt := congrArg Int32.toInt (show (gV τ162 23 0 152) = (gV τ 23 0 152) from (show gV τ162 23 0 152 = (gV τ 23 0 152) from gV_put eτ162 (show gV τ152 23 0 152 = (gV τ 23 0 152) from gV_put eτ152 (show gV τ144 23 0 152 = (gV τ 23 0 152) from gV_put eτ144 rfl))))
                    have q172 : (gV τ162 23 0 188).toInt = (gV τ 23 0 188).toInt := congrArg Int32.toInt (show (gV τ162 23 0 188) = (gV τ 23 0 188) from (show gV τ162 23 0 188 = (gV τ 23 0 188) from gV_put eτ162 (show gV τ152 23 0 188 = (gV τ 23 0 188) from gV_put eτ152 (show gV τ144 23 0 188 = (gV τ 23 0 188) from gV_put eτ144 rfl))))
                    have q173 : (gV τ162 23 0 2).toInt = (gV τ 23 0 2).toInt := congrArg Int32.toInt (show (gV τ162 23 0 2) = (gV τ 23 0 2) from (show gV τ162 23 0 2 = (gV τ 23 0 2) from gV_put eτ162 (show gV τ152 23 0 2 = (gV τ 23 0 2) from gV_put eτ152 (show gV τ144 23 0 2 = (gV τ 23 0 2) from gV_put eτ144 rfl))))
                    have q174 : (gV τ162 22 0 16).toInt = 1 := (congrArg Int32.toInt (show (gV τ162 22 0 16) = 1 from (show gV τ162 22 0 16 = 1 from gV_put eτ162 (show gV τ152 22 0 16 = 1 from gV_put eτ152 (show gV τ144 22 0 16 = 1 from gV_put eτ144 (gV_self _ _ _ _ _)))))).trans kt_1
                    have q175 : (gV τ162 22 0 6).toInt = 0 := (congrArg Int32.toInt (show (gV τ162 22 0 6) = 0 from (show gV τ162 22 0 6 = 0 from gV_put eτ162 (show gV τ152 22 0 6 = 0 from gV_put eτ152 (gV_self _ _ _ _ _))))).trans kt_0
                    have q176 : (gV τ162 22 0 7).toInt = 1 := (congrArg Int32.toInt (show (gV τ162 22 0 7) = 1 from (show gV τ162 22 0 7 = 1 from gV_put eτ162 (gV_self _ _ _ _ _)))).trans kt_1
                    have b177 : IV (gV τ 22 0 12) 0 400 := ⟨by have q1 := (iv_any (gV τ 22 0 12)); omega, by have q1 := (iv_any (gV τ 22 0 12)); omega⟩
                    refine m_isub C dX12_tower_160 ?_
                    refine m_topi (fun x178 ex178 => ?_)
                    have tx178 : x178.toInt = -1000100 - (gV τ 22 0 12).toInt := by rw [ex178, ti_subv kc_m1000100 b177 (by decide), kt_m1000100]
                    have b179 : IV x178 (-1000500) (-1000100) := by rw [ex178]; exact iv_sub kc_m1000100 b177 (by decide)
                    exact m_iret C hr hlk (by decide) (by decide) dX12_tower_161 ⟨_, rfl, i163, f164, (iv_wk b179 (by decide)), (Or.inl ⟨by omega, by omega, by omega, by omega⟩)⟩
            · have f180 : x127.toInt = 0 := by
                have q : _ := c132
                simp only [ti_nle, ti_nlt, ti_le, ti_lt, ti_eq, ti_ne, Classical.not_not, kt_0] at q
                omega
              have b181 : IV x127 0 0 := ⟨by have q1 := b128; have q2 := kc_0; omega, by have q1 := b128; have q2 := kc_0; omega⟩
              refine m_aload_n C dX12_tower_100 rfl rfl ?_
              refine m_callV (n := 0) (ci := 11) (st := []) C (c_X12_takeStoneE l G τ T N q75 ((gV τ 23 0 188).toInt.toNat : Nat)  iτ v_T n1_ (by omega) (by omega) (by omega) nb (by omega)) (by decide) (by decide) rfl rfl rfl q5_33 q5_30 q5_32 q0_34 q1_7 (by decide +kernel) rfl (by decide) (by decide) rfl (Nat.le_of_ble_eq_true rfl) dX12_tower_101 ?_
              rintro _ τ182 ⟨rfl, i183, f184, h188⟩
              have g187 : Fr MS_X12_towerT AS_X12_towerT σ τ182 := Fr.call (fτ) f184 (by decide)
              have v189 : TpM τ182 T N := v_T.fr f184 (by decide) (by decide) (by simp) (by decide)
              have u190 : IV (gV τ182 22 0 11) 0 400 := i183.1 22 0 11
              have u191 : IV (gV τ182 23 0 152) 0 7 := i183.1 23 0 152
              have u192 : IV (gV τ182 23 0 188) 0 4 := i183.1 23 0 188
              have u193 : IV (gV τ182 23 0 2) 0 7 := i183.1 23 0 2
              have q194 : (gV τ182 22 0 6).toInt = (gV τ 22 0 6).toInt := congrArg Int32.toInt (show (gV τ182 22 0 6) = (gV τ 22 0 6) from (show gV τ182 22 0 6 = (gV τ 22 0 6) from (f184.1 22 0 (6) (by decide) (by decide)).trans rfl))
              have q195 : (gV τ182 22 0 7).toInt = (gV τ 22 0 7).toInt := congrArg Int32.toInt (show (gV τ182 22 0 7) = (gV τ 22 0 7) from (show gV τ182 22 0 7 = (gV τ 22 0 7) from (f184.1 22 0 (7) (by decide) (by decide)).trans rfl))
              rcases h188 with ⟨h188_0, h188_1, h188_2, h188_3, h188_4, h188_5, h188_6⟩ | ⟨h188_0, h188_1, h188_2, h188_3, h188_4, h188_5, h188_6, h188_7⟩
              · skip
                have q196 := nP.bad (by omega) ⟨by omega, by omega⟩ h188_0
                have b197 : IV (gV τ182 22 0 16) 1 3 := ⟨by omega, by omega⟩
                show MW p l e _ s m args below meth c _ 2 G 0 0 104 [some (.ref (G.1 22 0)), none] [] τ182
                refine m_goto (tgt := 75) C dX12_tower_104 (by decide) ?_
                exact ih75 τ182 (tE T N (tE T N (tE T N (tE T N q75)))) i183 g187 v189 (Or.inr ⟨by omega, by omega, by omega, by omega, by omega, by omega, by omega, by omega⟩) (by have q := hm75; omega)
              · skip
                have b198 : IV (gV τ182 22 0 16) 0 0 := ⟨by omega, by omega⟩
                have v199 : CuM T N (tE T N (tE T N (tE T N (tE T N q75)))) τ182 := ⟨h188_3, h188_5⟩
                clear h188_3
                show MW p l e _ s m args below meth c _ 2 G 0 0 104 [some (.ref (G.1 22 0)), none] [] τ182
                refine m_goto (tgt := 75) C dX12_tower_104 (by decide) ?_
                exact ih75 τ182 (tE T N (tE T N (tE T N (tE T N q75)))) i183 g187 v189 (Or.inl ⟨by omega, v199, by omega, h188_6, h188_7, (by rw [show (gV τ182 23 0 152).toInt.toNat = (gV τ 23 0 152).toInt.toNat by omega, show (gV τ182 23 0 188).toInt.toNat = (gV τ 23 0 188).toInt.toNat + 1 by omega]; exact nP.go (by omega) ⟨by omega, by omega⟩ (by omega))⟩) (by have q := hm75; omega)
      · skip
        have b200 : IV (gV τ 22 0 16) 1 3 := ⟨by omega, by omega⟩
        refine m_aload_n C dX12_tower_75 rfl rfl ?_
        refine g_22_16 C q4_132 dX12_tower_76 ?_
        refine m_eqs (w := (gV τ 22 0 16)) rfl ?_
        refine m_if_ne (tgt := 107) C dX12_tower_79 (by decide) (fun c201 => ?_) (fun c201 => ?_)
        · have f202 : (gV τ 22 0 16).toInt ≠ 0 := by
            have q : _ := c201
            simp only [ti_nle, ti_nlt, ti_le, ti_lt, ti_eq, ti_ne, Classical.not_not, kt_0] at q
            omega
          refine m_aload_n C dX12_tower_107 rfl rfl ?_
          refine m_aload_n C dX12_tower_108 rfl rfl ?_
          refine g_22_16 C q4_132 dX12_tower_109 ?_
          refine m_eqs (w := (gV τ 22 0 16)) rfl ?_
          refine m_if_ne (tgt := 127) C dX12_tower_112 (by decide) (fun c203 => ?_) (fun c203 => ?_)
          · have f204 : (gV τ 22 0 16).toInt ≠ 0 := by
              have q : _ := c203
              simp only [ti_nle, ti_nlt, ti_le, ti_lt, ti_eq, ti_ne, Classical.not_not, kt_0] at q
              omega
            refine m_aload_n C dX12_tower_127 rfl rfl ?_
            refine g_22_16 C q4_132 dX12_tower_128 ?_
            refine m_eqs (w := (gV τ 22 0 16)) rfl ?_
            refine p_22_16 C q4_132 dX12_tower_131 ?_
            refine m_tops (fun τ205 eτ205 => ?_)
            have i206 : Inv τ205 := eτ205 ▸ Inv.putF iτ (by decide) rfl
            have f207 : Fr MS_X12_towerT AS_X12_towerT σ τ205 := eτ205 ▸ Fr.put (fτ) (Or.inl (by decide))
            have v208 : TpM τ205 T N := v_T.put eτ205 (Or.inr (by decide)) (by decide)
            have v209 : τ205.2.2.1 = τ.2.2.1 := by rw [eτ205]; rfl
            refine m_aload_n C dX12_tower_134 rfl rfl ?_
            refine m_iconst (v := 0) C dX12_tower_135 (by decide) ?_
            refine p_22_6 C q4_122 dX12_tower_136 ?_
            refine m_tops (fun τ210 eτ210 => ?_)
            have i211 : Inv τ210 := eτ210 ▸ Inv.put i206 (by decide) (iv_wk kc_0 (by decide))
            have f212 : Fr MS_X12_towerT AS_X12_towerT σ τ210 := eτ210 ▸ Fr.put (f207) (Or.inl (by decide))
            have v214 : τ210.2.2.1 = τ.2.2.1 := by rw [eτ210]; exact v209
            refine m_aload_n C dX12_tower_139 rfl rfl ?_
            refine g_22_16 C q4_132 dX12_tower_140 ?_
            refine m_eqs (w := (gV τ 22 0 16)) (show gV τ210 22 0 16 = (gV τ 22 0 16) from gV_put eτ210 (show gV τ205 22 0 16 = (gV τ 22 0 16) from gV_put eτ205 (gV_self _ _ _ _ _))) ?_
            refine m_if_eq (tgt := 162) C dX12_tower_143 (by decide) (fun c215 => ?_) (fun c215 => ?_)
            · exfalso
              have q : _ := c215
              simp only [ti_nle, ti_nlt, ti_le, ti_lt, ti_eq, ti_ne, Classical.not_not, kt_0] at q
              have q1 := b200; have q2 := kc_0; omega
            · have f217 : (gV τ 22 0 16).toInt ≠ 0 := by
                have q : _ := c215
                simp only [ti_nle, ti_nlt, ti_le, ti_lt, ti_eq, ti_ne, Classical.not_not, kt_0] at q
                omega
              refine m_aload_n C dX12_tower_146 rfl rfl ?_
              refine m_aload_n C dX12_tower_147 rfl rfl ?_
              refine g_22_16 C q4_132 dX12_tower_148 ?_
              refine m_eqs (w := (gV τ 22 0 16)) (show gV τ210 22 0 16 = (gV τ 22 0 16) from gV_put eτ210 (show gV τ205 22 0 16 = (gV τ 22 0 16) from gV_put eτ205 (gV_self _ _ _ _ _))) ?_
              refine p_22_7 C q4_123 dX12_tower_151 ?_
              refine m_tops (fun τ218 eτ218 => ?_)
              have i219 : Inv τ218 := eτ218 ▸ Inv.putF i211 (by decide) rfl
              have f220 : Fr MS_X12_towerT AS_X12_towerT σ τ218 := eτ218 ▸ Fr.put (f212) (Or.inl (by decide))
              have v221 : τ218.2.2.1 = τ.2.2.1 := by rw [eτ218]; exact v214
              refine m_ldc (v := (-1000100)) C dX12_tower_154 q5_34 ?_
              refine m_aload_n C dX12_tower_156 rfl rfl ?_
              refine g_22_12 C q4_128 dX12_tower_157 ?_
              refine m_eqs (w := (gV τ 22 0 12)) (show gV τ218 22 0 12 = (gV τ 22 0 12) from gV_put eτ218 (show gV τ210 22 0 12 = (gV τ 22 0 12) from gV_put eτ210 (show gV τ205 22 0 12 = (gV τ 22 0 12) from gV_put eτ205 rfl))) ?_
              have q222 : (gV τ218 22 0 11).toInt = (gV τ 22 0 11).toInt := congrArg Int32.toInt (show (gV τ218 22 0 11) = (gV τ 22 0 11) from (show gV τ218 22 0 11 = (gV τ 22 0 11) from gV_put eτ218 (show gV τ210 22 0 11 = (gV τ 22 0 11) from gV_put eτ210 (show gV τ205 22 0 11 = (gV τ 22 0 11) from gV_put eτ205 rfl))))
              have q223 : (gV τ218 22 0 12).toInt = (gV τ 22 0 12).toInt := congrArg Int32.toInt (show (gV τ218 22 0 12) = (gV τ 22 0 12) from (show gV τ218 22 0 12 = (gV τ 22 0 12) from gV_put eτ218 (show gV τ210 22 0 12 = (gV τ 22 0 12) from gV_put eτ210 (show gV τ205 22 0 12 = (gV τ 22 0 12) from gV_put eτ205 rfl))))
              have q224 : (gV τ218 23 0 150).toInt = (gV τ 23 0 150).toInt := congrArg Int32.toInt (show (gV τ218 23 0 150) = (gV τ 23 0 150) from (show gV τ218 23 0 150 = (gV τ 23 0 150) from gV_put eτ218 (show gV τ210 23 0 150 = (gV τ 23 0 150) from gV_put eτ210 (show gV τ205 23 0 150 = (gV τ 23 0 150) from gV_put eτ205 rfl))))
              have q225 : (gV τ218 23 0 152).toInt = (gV τ 23 0 152).toInt := congrArg Int32.toInt (show (gV τ218 23 0 152) = (gV τ 23 0 152) from (show gV τ218 23 0 152 = (gV τ 23 0 152) from gV_put eτ218 (show gV τ210 23 0 152 = (gV τ 23 0 152) from gV_put eτ210 (show gV τ205 23 0 152 = (gV τ 23 0 152) from gV_put eτ205 rfl))))
              have q226 : (gV τ218 23 0 188).toInt = (gV τ 23 0 188).toInt := congrArg Int32.toInt (show (gV τ218 23 0 188) = (gV τ 23 0 188) from (show gV τ218 23 0 188 = (gV τ 23 0 188) from gV_put eτ218 (show gV τ210 23 0 188 = (gV τ 23 0 188) from gV_put eτ210 (show gV τ205 23 0 188 = (gV τ 23 0 188) from gV_put eτ205 rfl))))
              have q227 : (gV τ218 23 0 2).toInt = (gV τ 23 0 2).toInt := congrArg Int32.toInt (show (gV τ218 23 0 2) = (gV τ 23 0 2) from (show gV τ218 23 0 2 = (gV τ 23 0 2) from gV_put eτ218 (show gV τ210 23 0 2 = (gV τ 23 0 2) from gV_put eτ210 (show gV τ205 23 0 2 = (gV τ 23 0 2) from gV_put eτ205 rfl))))
              have q228 : (gV τ218 22 0 16).toInt = (gV τ 22 0 16).toInt := congrArg Int32.toInt (show (gV τ218 22 0 16) = (gV τ 22 0 16) from (show gV τ218 22 0 16 = (gV τ 22 0 16) from gV_put eτ218 (show gV τ210 22 0 16 = (gV τ 22 0 16) from gV_put eτ210 (show gV τ205 22 0 16 = (gV τ 22 0 16) from gV_put eτ205 (gV_self _ _ _ _ _)))))
              have q229 : (gV τ218 22 0 6).toInt = 0 := (congrArg Int32.toInt (show (gV τ218 22 0 6) = 0 from (show gV τ218 22 0 6 = 0 from gV_put eτ218 (show gV τ210 22 0 6 = 0 from gV_put eτ210 (gV_self _ _ _ _ _))))).trans kt_0
              have q230 : (gV τ218 22 0 7).toInt = (gV τ 22 0 16).toInt := congrArg Int32.toInt (show (gV τ218 22 0 7) = (gV τ 22 0 16) from (show gV τ218 22 0 7 = (gV τ 22 0 16) from gV_put eτ218 (gV_self _ _ _ _ _)))
              have b231 : IV (gV τ 22 0 12) 0 400 := ⟨by have q1 := (iv_any (gV τ 22 0 12)); omega, by have q1 := (iv_any (gV τ 22 0 12)); omega⟩
              refine m_isub C dX12_tower_160 ?_
              refine m_topi (fun x232 ex232 => ?_)
              have tx232 : x232.toInt = -1000100 - (gV τ 22 0 12).toInt := by rw [ex232, ti_subv kc_m1000100 b231 (by decide), kt_m1000100]
              have b233 : IV x232 (-1000500) (-1000100) := by rw [ex232]; exact iv_sub kc_m1000100 b231 (by decide)
              exact m_iret C hr hlk (by decide) (by decide) dX12_tower_161 ⟨_, rfl, i219, f220, (iv_wk b233 (by decide)), (Or.inl ⟨by omega, by omega, by omega, by omega⟩)⟩
          · exfalso
            have q : _ := c203
            simp only [ti_nle, ti_nlt, ti_le, ti_lt, ti_eq, ti_ne, Classical.not_not, kt_0] at q
            have q1 := b200; have q2 := kc_0; omega
        · exfalso
          have q : _ := c201
          simp only [ti_nle, ti_nlt, ti_le, ti_lt, ti_eq, ti_ne, Classical.not_not, kt_0] at q
          have q1 := b200; have q2 := kc_0; omega
  have J43 : ∀ (n : Nat) (τ : Sg) (q43 : Nat), Inv τ → Fr MS_X12_towerT AS_X12_towerT σ τ → (TpM τ T N) → ((((gV τ 22 0 16).toInt = 0 ∧ CuM T N q43 τ ∧ (gV τ 22 0 11).toInt ≤ (gV τ 22 0 6).toInt ∧ (gV τ 23 0 150).toInt = tV T (tE T N 0) ∧ 4 ≤ (gV τ 23 0 150).toInt ∧ (gV τ 23 0 150).toInt ≤ 32 ∧ (gV τ 23 0 188).toInt = 0 ∧ Pb τ ∧ LW T N q43 τ.2.2.1 ∧ PI_ T N (gV τ 23 0 152).toInt.toNat q43) ∨ ((1 ≤ (gV τ 22 0 16).toInt ∧ (gV τ 22 0 16).toInt ≤ 3) ∧ outF T N = (gV τ 22 0 16).toInt ∧ ((gV τ 22 0 12).toInt = outP T N ∧ 0 ≤ outP T N ∧ (gV τ 22 0 12).toInt ≤ 400) ∧ (gV τ 22 0 11).toInt ≤ (gV τ 22 0 6).toInt ∧ 0 ≤ (gV τ 23 0 152).toInt ∧ (gV τ 23 0 152).toInt ≤ 7 ∧ 0 ≤ (gV τ 23 0 188).toInt ∧ (gV τ 23 0 188).toInt ≤ 4))) → (2 * (8 - (gV τ 23 0 152).toInt) + 1 - min 1 (max (gV τ 22 0 16).toInt (-(gV τ 22 0 16).toInt))).toNat < n → MW p l e { frames := 4, cells := 0, slots := 0, locals := 92 } s m args below meth c (MQ below (QP G (PI fun r τ => Inv τ ∧ Fr MS_X12_towerT AS_X12_towerT σ τ ∧ IV r (-1000500) 7 ∧ ((r.toInt = -1000100 - outP T N ∧ outF T N ≠ 0 ∧ (gV τ 22 0 7).toInt = outF T N ∧ (gV τ 22 0 6).toInt = 0) ∨ (r.toInt = outN T N ∧ outF T N = 0 ∧ (gV τ 22 0 7).toInt = (gV σ 22 0 7).toInt ∧ (gV τ 22 0 6).toInt = 0)))) args s 0 0 (aG G)) 2 G 0 0 43 [some (.ref (G.1 22 0)), none] [] τ := by
    intro n
    induction n with
    | zero => intro τ q43 iτ fτ v_T nR hm; exact absurd hm (Nat.not_lt_zero _)
    | succ n ih43 =>
      intro τ q43 iτ fτ v_T nR hm43
      have u236 : IV (gV τ 22 0 11) 0 400 := iτ.1 22 0 11
      have u237 : IV (gV τ 22 0 6) 0 400 := iτ.1 22 0 6
      have u238 : IV (gV τ 23 0 152) 0 7 := iτ.1 23 0 152
      have u239 : IV (gV τ 23 0 188) 0 4 := iτ.1 23 0 188
      have u240 : IV (gV τ 23 0 2) 0 7 := iτ.1 23 0 2
      have q241 : (gV τ 22 0 6).toInt = (N : Int) := v_T.1
      have q242 := v_T.2.1
      rcases nR with ⟨n0_, n1_, n2_, n3_, n4_, n5_, n6_, nb, nw, nP⟩ | ⟨n0_, n1_, n2_, n3_, n4_, n5_, n6_, n7_⟩
      · skip
        have b243 : IV (gV τ 22 0 16) 0 0 := ⟨by omega, by omega⟩
        refine m_aload_n C dX12_tower_43 rfl rfl ?_
        refine g_22_16 C q4_132 dX12_tower_44 ?_
        refine m_eqs (w := (gV τ 22 0 16)) rfl ?_
        refine m_if_ne (tgt := 75) C dX12_tower_47 (by decide) (fun c244 => ?_) (fun c244 => ?_)
        · exfalso
          have q : _ := c244
          simp only [ti_nle, ti_nlt, ti_le, ti_lt, ti_eq, ti_ne, Classical.not_not, kt_0] at q
          have q1 := b243; have q2 := kc_0; omega
        · have f246 : (gV τ 22 0 16).toInt = 0 := by
            have q : _ := c244
            simp only [ti_nle, ti_nlt, ti_le, ti_lt, ti_eq, ti_ne, Classical.not_not, kt_0] at q
            omega
          refine m_aload_n C dX12_tower_50 rfl rfl ?_
          refine g_22_13 C q4_129 dX12_tower_51 ?_
          refine m_topi (fun x247 ex247 => ?_)
          have q248 : (x247.toInt = 0 ↔ tK T N q43 = 1) := by have qc := n1_.1; rw [ex247]; omega
          have q249 : (x247.toInt = 4 ↔ tK T N q43 = 0) := by have qc := n1_.1; rw [ex247]; omega
          refine m_if_ne (tgt := 75) C dX12_tower_54 (by decide) (fun c250 => ?_) (fun c250 => ?_)
          · have f251 : x247.toInt ≠ 0 := by
              have q : _ := c250
              simp only [ti_nle, ti_nlt, ti_le, ti_lt, ti_eq, ti_ne, Classical.not_not, kt_0] at q
              omega
            exact J75 ((2 * (5 - (gV τ 23 0 188).toInt) + 1 - min 1 (max (gV τ 22 0 16).toInt (-(gV τ 22 0 16).toInt))).toNat + 1) τ q43 iτ fτ v_T (Or.inl ⟨by omega, n1_, by omega, nb, nw, (by rw [show (gV τ 23 0 152).toInt.toNat = (gV τ 23 0 152).toInt.toNat by omega, show (gV τ 23 0 188).toInt.toNat = 0 by omega]; exact nP.no (by omega))⟩) (Nat.lt_succ_self _)
          · have f252 : x247.toInt = 0 := by
              have q : _ := c250
              simp only [ti_nle, ti_nlt, ti_le, ti_lt, ti_eq, ti_ne, Classical.not_not, kt_0] at q
              omega
            have b253 : IV x247 0 0 := ⟨by have q1 := (iv_any x247); have q2 := kc_0; omega, by have q1 := (iv_any x247); have q2 := kc_0; omega⟩
            refine m_aload_n C dX12_tower_57 rfl rfl ?_
            refine g_22_14 C q4_130 dX12_tower_58 ?_
            refine m_topl (fun w254 ew254 => ?_)
            have q255 : tK T N q43 = 1 := by omega
            have q256 : (w254.toInt = 542723566 ↔ tW T N q43 1 = 1) := by rw [ew254]; exact LW.at1 nw q255
            refine m_ldc2 (v := 542723566) C dX12_tower_61 q5_16 ?_
            refine m_lcmp C dX12_tower_64 ?_
            refine m_topi (fun x257 ex257 => ?_)
            have b258 : IV x257 (-1) 1 := by rw [ex257]; rcases lgc w254 542723566 with q | q | q <;> omega
            have f259 := lgc w254 542723566
            rw [← ex257] at f259
            have f261 := kl_542723566
            refine m_if_ne (tgt := 75) C dX12_tower_65 (by decide) (fun c262 => ?_) (fun c262 => ?_)
            · have f263 : x257.toInt ≠ 0 := by
                have q : _ := c262
                simp only [ti_nle, ti_nlt, ti_le, ti_lt, ti_eq, ti_ne, Classical.not_not, kt_0] at q
                omega
              exact J75 ((2 * (5 - (gV τ 23 0 188).toInt) + 1 - min 1 (max (gV τ 22 0 16).toInt (-(gV τ 22 0 16).toInt))).toNat + 1) τ q43 iτ fτ v_T (Or.inl ⟨by omega, n1_, by omega, nb, nw, (by rw [show (gV τ 23 0 152).toInt.toNat = (gV τ 23 0 152).toInt.toNat by omega, show (gV τ 23 0 188).toInt.toNat = 0 by omega]; exact nP.no (by omega))⟩) (Nat.lt_succ_self _)
            · have f264 : x257.toInt = 0 := by
                have q : _ := c262
                simp only [ti_nle, ti_nlt, ti_le, ti_lt, ti_eq, ti_ne, Classical.not_not, kt_0] at q
                omega
              have b265 : IV x257 0 0 := ⟨by have q1 := b258; have q2 := kc_0; omega, by have q1 := b258; have q2 := kc_0; omega⟩
              refine m_aload_n C dX12_tower_68 rfl rfl ?_
              refine m_callV (n := 0) (ci := 11) (st := []) C (c_X12_takePersonE l G τ T N q43 (tV T (tE T N 0)) ((gV τ 23 0 152).toInt.toNat : Nat)  iτ v_T n1_ (by omega) (by omega) (by omega) nb (by omega)) (by decide) (by decide) rfl rfl rfl q5_20 q5_17 q5_19 q0_33 q1_7 (by decide +kernel) rfl (by decide) (by decide) rfl (Nat.le_of_ble_eq_true rfl) dX12_tower_69 ?_
              rintro _ τ266 ⟨rfl, i267, f268, h272⟩
              have g271 : Fr MS_X12_towerT AS_X12_towerT σ τ266 := Fr.call (fτ) f268 (by decide)
              have v273 : TpM τ266 T N := v_T.fr f268 (by decide) (by decide) (by simp) (by decide)
              have u274 : IV (gV τ266 22 0 11) 0 400 := i267.1 22 0 11
              have u275 : IV (gV τ266 23 0 152) 0 7 := i267.1 23 0 152
              have u276 : IV (gV τ266 23 0 188) 0 4 := i267.1 23 0 188
              have u277 : IV (gV τ266 23 0 2) 0 7 := i267.1 23 0 2
              have q278 : (gV τ266 22 0 6).toInt = (gV τ 22 0 6).toInt := congrArg Int32.toInt (show (gV τ266 22 0 6) = (gV τ 22 0 6) from (show gV τ266 22 0 6 = (gV τ 22 0 6) from (f268.1 22 0 (6) (by decide) (by decide)).trans rfl))
              have q279 : (gV τ266 22 0 7).toInt = (gV τ 22 0 7).toInt := congrArg Int32.toInt (show (gV τ266 22 0 7) = (gV τ 22 0 7) from (show gV τ266 22 0 7 = (gV τ 22 0 7) from (f268.1 22 0 (7) (by decide) (by decide)).trans rfl))
              rcases h272 with ⟨h272_0, h272_1, h272_2, h272_3, h272_4, h272_5⟩ | ⟨h272_0, h272_1, h272_2, h272_3, h272_4, h272_5, h272_6, h272_7⟩
              · skip
                have q280 := nP.bad (by omega) ⟨by omega, by omega⟩ h272_0
                have b281 : IV (gV τ266 22 0 16) 1 3 := ⟨by omega, by omega⟩
                show MW p l e _ s m args below meth c _ 2 G 0 0 72 [some (.ref (G.1 22 0)), none] [] τ266
                refine m_goto (tgt := 43) C dX12_tower_72 (by decide) ?_
                exact ih43 τ266 (tE T N (tE T N (tE T N (tE T N (tE T N (tE T N q43)))))) i267 g271 v273 (Or.inr ⟨by omega, by omega, by omega, by omega, by omega, by omega, by omega, by omega⟩) (by have q := hm43; omega)
              · skip
                have b282 : IV (gV τ266 22 0 16) 0 0 := ⟨by omega, by omega⟩
                have v283 : CuM T N (tE T N (tE T N (tE T N (tE T N (tE T N (tE T N q43)))))) τ266 := ⟨h272_3, h272_5⟩
                clear h272_3
                show MW p l e _ s m args below meth c _ 2 G 0 0 72 [some (.ref (G.1 22 0)), none] [] τ266
                refine m_goto (tgt := 43) C dX12_tower_72 (by decide) ?_
                exact ih43 τ266 (tE T N (tE T N (tE T N (tE T N (tE T N (tE T N q43)))))) i267 g271 v273 (Or.inl ⟨by omega, v283, by omega, by omega, by omega, by omega, by omega, h272_6, h272_7, (by rw [show (gV τ266 23 0 152).toInt.toNat = (gV τ 23 0 152).toInt.toNat + 1 by omega]; exact nP.go (by omega) ⟨by omega, by omega⟩ (by omega))⟩) (by have q := hm43; omega)
      · skip
        have b284 : IV (gV τ 22 0 16) 1 3 := ⟨by omega, by omega⟩
        refine m_aload_n C dX12_tower_43 rfl rfl ?_
        refine g_22_16 C q4_132 dX12_tower_44 ?_
        refine m_eqs (w := (gV τ 22 0 16)) rfl ?_
        refine m_if_ne (tgt := 75) C dX12_tower_47 (by decide) (fun c285 => ?_) (fun c285 => ?_)
        · have f286 : (gV τ 22 0 16).toInt ≠ 0 := by
            have q : _ := c285
            simp only [ti_nle, ti_nlt, ti_le, ti_lt, ti_eq, ti_ne, Classical.not_not, kt_0] at q
            omega
          exact J75 ((2 * (5 - (gV τ 23 0 188).toInt) + 1 - min 1 (max (gV τ 22 0 16).toInt (-(gV τ 22 0 16).toInt))).toNat + 1) τ q43 iτ fτ v_T (Or.inr ⟨by omega, by omega, by omega, by omega, by omega, by omega, by omega, by omega⟩) (Nat.lt_succ_self _)
        · exfalso
          have q : _ := c285
          simp only [ti_nle, ti_nlt, ti_le, ti_lt, ti_eq, ti_ne, Classical.not_not, kt_0] at q
          have q1 := b284; have q2 := kc_0; omega
  have J2 : ∀ (n : Nat) (τ : Sg) (y1 : Int32), Inv τ → Fr MS_X12_towerT AS_X12_towerT σ τ → IV y1 0 50 → (TpM τ T N) → ((3 ≤ y1.toInt → (gV τ 23 0 152).toInt = 0)) → ((39 ≤ y1.toInt → (gV τ 23 0 188).toInt = 0)) → (50 - y1.toInt).toNat < n → MW p l e { frames := 4, cells := 0, slots := 0, locals := 92 } s m args below meth c (MQ below (QP G (PI fun r τ => Inv τ ∧ Fr MS_X12_towerT AS_X12_towerT σ τ ∧ IV r (-1000500) 7 ∧ ((r.toInt = -1000100 - outP T N ∧ outF T N ≠ 0 ∧ (gV τ 22 0 7).toInt = outF T N ∧ (gV τ 22 0 6).toInt = 0) ∨ (r.toInt = outN T N ∧ outF T N = 0 ∧ (gV τ 22 0 7).toInt = (gV σ 22 0 7).toInt ∧ (gV τ 22 0 6).toInt = 0)))) args s 0 0 (aG G)) 2 G 0 0 2 [some (.ref (G.1 22 0)), some (.int y1)] [] τ := by
    intro n
    induction n with
    | zero => intro τ y1 iτ fτ b_y1 v_T nz nz2 hm; exact absurd hm (Nat.not_lt_zero _)
    | succ n ih2 =>
      intro τ y1 iτ fτ b_y1 v_T nz nz2 hm2
      have u288 : IV (gV τ 22 0 11) 0 400 := iτ.1 22 0 11
      have u289 : IV (gV τ 22 0 6) 0 400 := iτ.1 22 0 6
      have u290 : IV (gV τ 23 0 152) 0 7 := iτ.1 23 0 152
      have u291 : IV (gV τ 23 0 188) 0 4 := iτ.1 23 0 188
      have u292 : IV (gV τ 23 0 2) 0 7 := iτ.1 23 0 2
      have q293 : (gV τ 22 0 6).toInt = (N : Int) := v_T.1
      have q294 := v_T.2.1
      refine m_iload_n C dX12_tower_2 rfl rfl ?_
      refine m_bipush (v := 50) C dX12_tower_3 (by decide) ?_
      refine m_icmp_ge (tgt := 25) C dX12_tower_5 (by decide) (fun c295 => ?_) (fun c295 => ?_)
      · have f296 : 50 ≤ y1.toInt := by
          have q : _ := c295
          simp only [ti_nle, ti_nlt, ti_le, ti_lt, ti_eq, ti_ne, Classical.not_not, kt_50] at q
          omega
        have b297 : IV y1 50 50 := ⟨by have q1 := kc_50; have q2 := b_y1; omega, by have q1 := kc_50; have q2 := b_y1; omega⟩
        refine m_aload_n C dX12_tower_25 rfl rfl ?_
        refine m_iconst (v := 0) C dX12_tower_26 (by decide) ?_
        refine p_22_11 C q4_127 dX12_tower_27 ?_
        refine m_tops (fun τ298 eτ298 => ?_)
        have i299 : Inv τ298 := eτ298 ▸ Inv.put iτ (by decide) (iv_wk kc_0 (by decide))
        have f300 : Fr MS_X12_towerT AS_X12_towerT σ τ298 := eτ298 ▸ Fr.put (fτ) (Or.inl (by decide))
        have v301 : TpM τ298 T N := v_T.put eτ298 (Or.inr (by decide)) (by decide)
        have v302 : τ298.2.2.1 = τ.2.2.1 := by rw [eτ298]; rfl
        refine m_aload_n C dX12_tower_30 rfl rfl ?_
        refine m_iconst (v := 0) C dX12_tower_31 (by decide) ?_
        refine p_22_16 C q4_132 dX12_tower_32 ?_
        refine m_tops (fun τ303 eτ303 => ?_)
        have i304 : Inv τ303 := eτ303 ▸ Inv.putF i299 (by decide) rfl
        have f305 : Fr MS_X12_towerT AS_X12_towerT σ τ303 := eτ303 ▸ Fr.put (f300) (Or.inl (by decide))
        have v306 : TpM τ303 T N := v301.put eτ303 (Or.inr (by decide)) (by decide)
        have v307 : τ303.2.2.1 = τ.2.2.1 := by rw [eτ303]; exact v302
        refine m_aload_n C dX12_tower_35 rfl rfl ?_
        have q308 : (gV τ303 22 0 12).toInt = (gV τ 22 0 12).toInt := congrArg Int32.toInt (show (gV τ303 22 0 12) = (gV τ 22 0 12) from (show gV τ303 22 0 12 = (gV τ 22 0 12) from gV_put eτ303 (show gV τ298 22 0 12 = (gV τ 22 0 12) from gV_put eτ298 rfl)))
        have q309 : (gV τ303 22 0 6).toInt = (gV τ 22 0 6).toInt := congrArg Int32.toInt (show (gV τ303 22 0 6) = (gV τ 22 0 6) from (show gV τ303 22 0 6 = (gV τ 22 0 6) from gV_put eτ303 (show gV τ298 22 0 6 = (gV τ 22 0 6) from gV_put eτ298 rfl)))
        have q310 : (gV τ303 22 0 7).toInt = (gV τ 22 0 7).toInt := congrArg Int32.toInt (show (gV τ303 22 0 7) = (gV τ 22 0 7) from (show gV τ303 22 0 7 = (gV τ 22 0 7) from gV_put eτ303 (show gV τ298 22 0 7 = (gV τ 22 0 7) from gV_put eτ298 rfl)))
        have q311 : (gV τ303 23 0 150).toInt = (gV τ 23 0 150).toInt := congrArg Int32.toInt (show (gV τ303 23 0 150) = (gV τ 23 0 150) from (show gV τ303 23 0 150 = (gV τ 23 0 150) from gV_put eτ303 (show gV τ298 23 0 150 = (gV τ 23 0 150) from gV_put eτ298 rfl)))
        have q312 : (gV τ303 23 0 152).toInt = (gV τ 23 0 152).toInt := congrArg Int32.toInt (show (gV τ303 23 0 152) = (gV τ 23 0 152) from (show gV τ303 23 0 152 = (gV τ 23 0 152) from gV_put eτ303 (show gV τ298 23 0 152 = (gV τ 23 0 152) from gV_put eτ298 rfl)))
        have q313 : (gV τ303 23 0 188).toInt = (gV τ 23 0 188).toInt := congrArg Int32.toInt (show (gV τ303 23 0 188) = (gV τ 23 0 188) from (show gV τ303 23 0 188 = (gV τ 23 0 188) from gV_put eτ303 (show gV τ298 23 0 188 = (gV τ 23 0 188) from gV_put eτ298 rfl)))
        have q314 : (gV τ303 23 0 2).toInt = (gV τ 23 0 2).toInt := congrArg Int32.toInt (show (gV τ303 23 0 2) = (gV τ 23 0 2) from (show gV τ303 23 0 2 = (gV τ 23 0 2) from gV_put eτ303 (show gV τ298 23 0 2 = (gV τ 23 0 2) from gV_put eτ298 rfl)))
        have q315 : (gV τ303 22 0 11).toInt = 0 := (congrArg Int32.toInt (show (gV τ303 22 0 11) = 0 from (show gV τ303 22 0 11 = 0 from gV_put eτ303 (show gV τ298 22 0 11 = 0 from gV_put eτ298 (gV_self _ _ _ _ _))))).trans kt_0
        have q316 : (gV τ303 22 0 16).toInt = 0 := (congrArg Int32.toInt (show (gV τ303 22 0 16) = 0 from (show gV τ303 22 0 16 = 0 from gV_put eτ303 (gV_self _ _ _ _ _)))).trans kt_0
        refine m_callV (n := 0) (ci := 11) (st := []) C (c_X12_nextE l G τ303 T N 0  i304 v306 (by omega)) (by decide) (by decide) rfl rfl rfl q4_231 q4_228 q4_230 q0_28 q1_7 (by decide +kernel) rfl (by decide) (by decide) rfl (Nat.le_of_ble_eq_true rfl) dX12_tower_36 ?_
        rintro _ τ317 ⟨rfl, i318, f319, h323⟩
        have g322 : Fr MS_X12_towerT AS_X12_towerT σ τ317 := Fr.call (f305) f319 (by decide)
        have v324 : TpM τ317 T N := v306.fr f319 (by decide) (by decide) (by simp) (by decide)
        obtain ⟨h325, h327, v326⟩ := h323
        have v328 : CuM T N 0 τ317 := ⟨h325, h327⟩
        clear h325
        have u329 : IV (gV τ317 22 0 11) 0 400 := i318.1 22 0 11
        have q330 : (gV τ317 22 0 6).toInt = (gV τ 22 0 6).toInt := congrArg Int32.toInt (show (gV τ317 22 0 6) = (gV τ 22 0 6) from (show gV τ317 22 0 6 = (gV τ 22 0 6) from (f319.1 22 0 (6) (by decide) (by decide)).trans (show gV τ303 22 0 6 = (gV τ 22 0 6) from gV_put eτ303 (show gV τ298 22 0 6 = (gV τ 22 0 6) from gV_put eτ298 rfl))))
        have q331 : (gV τ317 22 0 7).toInt = (gV τ 22 0 7).toInt := congrArg Int32.toInt (show (gV τ317 22 0 7) = (gV τ 22 0 7) from (show gV τ317 22 0 7 = (gV τ 22 0 7) from (f319.1 22 0 (7) (by decide) (by decide)).trans (show gV τ303 22 0 7 = (gV τ 22 0 7) from gV_put eτ303 (show gV τ298 22 0 7 = (gV τ 22 0 7) from gV_put eτ298 rfl))))
        have q332 : (gV τ317 23 0 150).toInt = (gV τ 23 0 150).toInt := congrArg Int32.toInt (show (gV τ317 23 0 150) = (gV τ 23 0 150) from (show gV τ317 23 0 150 = (gV τ 23 0 150) from (f319.1 23 0 (150) (by decide) (by decide)).trans (show gV τ303 23 0 150 = (gV τ 23 0 150) from gV_put eτ303 (show gV τ298 23 0 150 = (gV τ 23 0 150) from gV_put eτ298 rfl))))
        have q333 : (gV τ317 23 0 152).toInt = (gV τ 23 0 152).toInt := congrArg Int32.toInt (show (gV τ317 23 0 152) = (gV τ 23 0 152) from (show gV τ317 23 0 152 = (gV τ 23 0 152) from (f319.1 23 0 (152) (by decide) (by decide)).trans (show gV τ303 23 0 152 = (gV τ 23 0 152) from gV_put eτ303 (show gV τ298 23 0 152 = (gV τ 23 0 152) from gV_put eτ298 rfl))))
        have q334 : (gV τ317 23 0 188).toInt = (gV τ 23 0 188).toInt := congrArg Int32.toInt (show (gV τ317 23 0 188) = (gV τ 23 0 188) from (show gV τ317 23 0 188 = (gV τ 23 0 188) from (f319.1 23 0 (188) (by decide) (by decide)).trans (show gV τ303 23 0 188 = (gV τ 23 0 188) from gV_put eτ303 (show gV τ298 23 0 188 = (gV τ 23 0 188) from gV_put eτ298 rfl))))
        have q335 : (gV τ317 23 0 2).toInt = (gV τ 23 0 2).toInt := congrArg Int32.toInt (show (gV τ317 23 0 2) = (gV τ 23 0 2) from (show gV τ317 23 0 2 = (gV τ 23 0 2) from (f319.1 23 0 (2) (by decide) (by decide)).trans (show gV τ303 23 0 2 = (gV τ 23 0 2) from gV_put eτ303 (show gV τ298 23 0 2 = (gV τ 23 0 2) from gV_put eτ298 rfl))))
        have q336 : (gV τ317 22 0 16).toInt = 0 := (congrArg Int32.toInt (show (gV τ317 22 0 16) = 0 from (show gV τ317 22 0 16 = 0 from (f319.1 22 0 (16) (by decide) (by decide)).trans (show gV τ303 22 0 16 = 0 from gV_put eτ303 (gV_self _ _ _ _ _))))).trans kt_0
        show MW p l e _ s m args below meth c _ 2 G 0 0 39 [some (.ref (G.1 22 0)), some (.int y1)] [] τ317
        refine m_aload_n C dX12_tower_39 rfl rfl ?_
        refine m_callV (n := 0) (ci := 11) (st := []) C (c_X12_takeLawE l G τ317 T N 0  i318 v324 v328.1 (by omega) (by omega) v326) (by decide) (by decide) rfl rfl rfl q5_2 q4_239 q5_1 q0_29 q1_7 (by decide +kernel) rfl (by decide) (by decide) rfl (Nat.le_of_ble_eq_true rfl) dX12_tower_40 ?_
        rintro _ τ337 ⟨rfl, i338, f339, h343⟩
        have g342 : Fr MS_X12_towerT AS_X12_towerT σ τ337 := Fr.call (g322) f339 (by decide)
        have v344 : TpM τ337 T N := v324.fr f339 (by decide) (by decide) (by simp) (by decide)
        have u345 : IV (gV τ337 22 0 11) 0 400 := i338.1 22 0 11
        have u346 : IV (gV τ337 23 0 152) 0 7 := i338.1 23 0 152
        have u347 : IV (gV τ337 23 0 188) 0 4 := i338.1 23 0 188
        have u348 : IV (gV τ337 23 0 2) 0 7 := i338.1 23 0 2
        have q349 : (gV τ337 22 0 6).toInt = (gV τ 22 0 6).toInt := congrArg Int32.toInt (show (gV τ337 22 0 6) = (gV τ 22 0 6) from (show gV τ337 22 0 6 = (gV τ 22 0 6) from (f339.1 22 0 (6) (by decide) (by decide)).trans (show gV τ317 22 0 6 = (gV τ 22 0 6) from (f319.1 22 0 (6) (by decide) (by decide)).trans (show gV τ303 22 0 6 = (gV τ 22 0 6) from gV_put eτ303 (show gV τ298 22 0 6 = (gV τ 22 0 6) from gV_put eτ298 rfl)))))
        have q350 : (gV τ337 22 0 7).toInt = (gV τ 22 0 7).toInt := congrArg Int32.toInt (show (gV τ337 22 0 7) = (gV τ 22 0 7) from (show gV τ337 22 0 7 = (gV τ 22 0 7) from (f339.1 22 0 (7) (by decide) (by decide)).trans (show gV τ317 22 0 7 = (gV τ 22 0 7) from (f319.1 22 0 (7) (by decide) (by decide)).trans (show gV τ303 22 0 7 = (gV τ 22 0 7) from gV_put eτ303 (show gV τ298 22 0 7 = (gV τ 22 0 7) from gV_put eτ298 rfl)))))
        rcases h343 with ⟨h343_0, h343_1, h343_2, h343_3, h343_4⟩ | ⟨h343_0, h343_1, h343_2, h343_3, h343_4, h343_5, h343_6⟩
        · skip
          have q351 := out_law (T := T) (N := N) (by omega)
          have b352 : IV (gV τ337 22 0 16) 1 3 := ⟨by omega, by omega⟩
          show MW p l e _ s m args below meth c _ 2 G 0 0 43 [some (.ref (G.1 22 0)), some (.int y1)] [] τ337
          refine m_sub (L1 := [some (.ref (G.1 22 0)), none]) ⟨rfl, trivial⟩ ?_
          exact J43 ((2 * (8 - (gV τ337 23 0 152).toInt) + 1 - min 1 (max (gV τ337 22 0 16).toInt (-(gV τ337 22 0 16).toInt))).toNat + 1) τ337 (tE T N (tE T N (tE T N (tE T N 0)))) i338 g342 v344 (Or.inr ⟨by omega, by omega, by omega, by omega, by omega, by omega, by omega, by omega⟩) (Nat.lt_succ_self _)
        · skip
          have b353 : IV (gV τ337 22 0 16) 0 0 := ⟨by omega, by omega⟩
          have v354 : CuM T N (tE T N (tE T N (tE T N (tE T N 0)))) τ337 := ⟨h343_3, h343_5⟩
          clear h343_3
          have v355 : Pb τ337 := fun p _ hp => absurd hp (by omega)
          show MW p l e _ s m args below meth c _ 2 G 0 0 43 [some (.ref (G.1 22 0)), some (.int y1)] [] τ337
          refine m_sub (L1 := [some (.ref (G.1 22 0)), none]) ⟨rfl, trivial⟩ ?_
          exact J43 ((2 * (8 - (gV τ337 23 0 152).toInt) + 1 - min 1 (max (gV τ337 22 0 16).toInt (-(gV τ337 22 0 16).toInt))).toNat + 1) τ337 (tE T N (tE T N (tE T N (tE T N 0)))) i338 g342 v344 (Or.inl ⟨by omega, v354, by omega, by omega, by omega, by omega, by omega, v355, h343_6, (by rw [show (gV τ337 23 0 152).toInt.toNat = 0 by omega]; exact PI_.start (by omega))⟩) (Nat.lt_succ_self _)
      · have f356 : y1.toInt < 50 := by
          have q : _ := c295
          simp only [ti_nle, ti_nlt, ti_le, ti_lt, ti_eq, ti_ne, Classical.not_not, kt_50] at q
          omega
        have b357 : IV y1 0 49 := ⟨by have q1 := b_y1; have q2 := kc_50; omega, by have q1 := b_y1; have q2 := kc_50; omega⟩
        refine m_aload_n C dX12_tower_8 rfl rfl ?_
        refine g_22_0 C q4_116 dX12_tower_9 ?_
        refine m_sipush (v := 150) C dX12_tower_12 (by decide) ?_
        refine m_iload_n C dX12_tower_15 rfl rfl ?_
        refine m_iadd C dX12_tower_16 ?_
        refine m_topi (fun x358 ex358 => ?_)
        have tx358 : x358.toInt = 150 + y1.toInt := by rw [ex358, ti_addv kc_150 b357 (by decide), kt_150]
        have b359 : IV x358 150 199 := by rw [ex358]; exact iv_add kc_150 b357 (by decide)
        refine m_iconst (v := 0) C dX12_tower_17 (by decide) ?_
        refine as_23 C b359 (by decide) rfl dX12_tower_18 ?_
        refine m_tops (fun τ360 eτ360 => ?_)
        have i361 : Inv τ360 := eτ360 ▸ Inv.putR0 iτ (by omega) kt_0
        have f362 : Fr MS_X12_towerT AS_X12_towerT σ τ360 := eτ360 ▸ Fr.put (fτ) (Or.inr (by decide))
        have v363 : TpM τ360 T N := v_T.put eτ360 (Or.inl (by decide)) (by decide)
        have v364 : τ360.2.2.1 = τ.2.2.1 := by rw [eτ360]; rfl
        obtain ⟨x365, ex365⟩ : ∃ y : Int32, y = y1 + 1 := ⟨_, rfl⟩
        have tx365 : x365.toInt = y1.toInt + 1 := by rw [ex365, ti_addv b357 kc_1 (by decide), kt_1]
        have b366 : IV x365 1 50 := by rw [ex365]; exact iv_add b357 kc_1 (by decide)
        refine m_iinc (v := x365) (L1 := [some (.ref (G.1 22 0)), some (.int x365)]) C dX12_tower_19 rfl (by rw [ex365]; rfl) (by decide) rfl rfl ?_
        refine m_goto (tgt := 2) C dX12_tower_22 (by decide) ?_
        have q367 : (gV τ360 22 0 11).toInt = (gV τ 22 0 11).toInt := congrArg Int32.toInt (show (gV τ360 22 0 11) = (gV τ 22 0 11) from (show gV τ360 22 0 11 = (gV τ 22 0 11) from gV_put eτ360 rfl))
        have q368 : (gV τ360 22 0 12).toInt = (gV τ 22 0 12).toInt := congrArg Int32.toInt (show (gV τ360 22 0 12) = (gV τ 22 0 12) from (show gV τ360 22 0 12 = (gV τ 22 0 12) from gV_put eτ360 rfl))
        have q369 : (gV τ360 22 0 16).toInt = (gV τ 22 0 16).toInt := congrArg Int32.toInt (show (gV τ360 22 0 16) = (gV τ 22 0 16) from (show gV τ360 22 0 16 = (gV τ 22 0 16) from gV_put eτ360 rfl))
        have q370 : (gV τ360 22 0 6).toInt = (gV τ 22 0 6).toInt := congrArg Int32.toInt (show (gV τ360 22 0 6) = (gV τ 22 0 6) from (show gV τ360 22 0 6 = (gV τ 22 0 6) from gV_put eτ360 rfl))
        have q371 : (gV τ360 22 0 7).toInt = (gV τ 22 0 7).toInt := congrArg Int32.toInt (show (gV τ360 22 0 7) = (gV τ 22 0 7) from (show gV τ360 22 0 7 = (gV τ 22 0 7) from gV_put eτ360 rfl))
        have q372 : (gV τ360 23 0 2).toInt = (gV τ 23 0 2).toInt := congrArg Int32.toInt (show (gV τ360 23 0 2) = (gV τ 23 0 2) from (show gV τ360 23 0 2 = (gV τ 23 0 2) from (gV_putn eτ360 (Or.inr (Or.inr (by omega)))).trans rfl))
        exact ih2 τ360 x365 i361 f362 (iv_wk b366 (by decide)) v363 (fun q => zero152 eτ360 kt_0 (by omega)) (fun q => zero188 eτ360 kt_0 (by omega)) (by have q := hm2; omega)
  have u373 : IV (gV σ 22 0 11) 0 400 := hI.1 22 0 11
  have u374 : IV (gV σ 22 0 6) 0 400 := hI.1 22 0 6
  have u375 : IV (gV σ 23 0 152) 0 7 := hI.1 23 0 152
  have u376 : IV (gV σ 23 0 188) 0 4 := hI.1 23 0 188
  have u377 : IV (gV σ 23 0 2) 0 7 := hI.1 23 0 2
  have q378 : (gV σ 22 0 6).toInt = (N : Int) := hT.1
  have q379 := hT.2.1
  refine m_iconst (v := 0) C dX12_tower_0 (by decide) ?_
  refine m_istore_n (L1 := [some (.ref (G.1 22 0)), some (.int 0)]) C dX12_tower_1 rfl (by decide) rfl rfl ?_
  exact J2 ((50 - (0 : Int32).toInt).toNat + 1) σ 0 hI Fr.rf (iv_wk kc_0 (by decide)) hT (by omega) (by omega) (Nat.lt_succ_self _)
