abbrev MS_X12_takeStoneE : List (Nat × Nat) := [(22, 11), (22, 12), (22, 13), (22, 15), (22, 16)]
abbrev AS_X12_takeStoneE : List Nat := [23]
set_option maxHeartbeats 4000000 in
set_option maxRecDepth 100000 in
theorem c_X12_takeStoneE (l : Launch) (G : Gt) (σ : Sg) (T : Nat → Int) (N : Nat) (i : Nat) (cc : Int) (hI : Inv σ) (hT : TpM σ T N) (hcur : ((gV σ 22 0 12).toInt = (tS T i : Int) ∧ (tK T N i ≠ 4 → (gV σ 22 0 11).toInt = (tE T N i : Int)) ∧ (gV σ 22 0 13).toInt = (tK T N i + 4) % 5 ∧ 0 ≤ tK T N i ∧ tK T N i ≤ 4 ∧ (tK T N i = 2 → (gV σ 22 0 15).toInt = tV T i) ∧ (gV σ 22 0 12).toInt ≤ 400)) (hat : (gV σ 22 0 11).toInt ≤ (gV σ 22 0 6).toInt) (hf0 : (gV σ 22 0 16).toInt = 0) (hPb : Pb σ) (hst : (gV σ 23 0 188).toInt = cc) : Mc l G yX12_takeStone cX12_takeStone 2 none 3 69 0 0 [.ref (G.1 22 0)] σ (PV fun τ => Inv τ ∧ Fr MS_X12_takeStoneE AS_X12_takeStoneE σ τ ∧ ((stoF T N cc i ≠ 0 ∧ ((gV τ 22 0 16).toInt = stoF T N cc i ∧ 1 ≤ (gV τ 22 0 16).toInt ∧ (gV τ 22 0 16).toInt ≤ 3) ∧ ((gV τ 22 0 12).toInt = stoP T N cc i ∧ 0 ≤ (gV τ 22 0 12).toInt ∧ (gV τ 22 0 12).toInt ≤ 400) ∧ ((gV τ 23 0 188).toInt = cc ∨ (gV τ 23 0 188).toInt = cc + 1) ∧ ((gV τ 23 0 150).toInt = (gV σ 23 0 150).toInt ∧ (gV τ 23 0 152).toInt = (gV σ 23 0 152).toInt) ∧ (gV τ 22 0 11).toInt ≤ (gV τ 22 0 6).toInt ∧ Pb τ) ∨ (stoF T N cc i = 0 ∧ (gV τ 22 0 16).toInt = 0 ∧ (gV τ 23 0 188).toInt = cc + 1 ∧ ((gV τ 22 0 12).toInt = (tS T (tE T N (tE T N (tE T N (tE T N i)))) : Int) ∧ (tK T N (tE T N (tE T N (tE T N (tE T N i)))) ≠ 4 → (gV τ 22 0 11).toInt = (tE T N (tE T N (tE T N (tE T N (tE T N i)))) : Int)) ∧ (gV τ 22 0 13).toInt = (tK T N (tE T N (tE T N (tE T N (tE T N i)))) + 4) % 5 ∧ 0 ≤ tK T N (tE T N (tE T N (tE T N (tE T N i)))) ∧ tK T N (tE T N (tE T N (tE T N (tE T N i)))) ≤ 4 ∧ (tK T N (tE T N (tE T N (tE T N (tE T N i)))) = 2 → (gV τ 22 0 15).toInt = tV T (tE T N (tE T N (tE T N (tE T N i))))) ∧ (gV τ 22 0 12).toInt ≤ 400) ∧ ((gV τ 23 0 150).toInt = (gV σ 23 0 150).toInt ∧ (gV τ 23 0 152).toInt = (gV σ 23 0 152).toInt) ∧ (gV τ 22 0 11).toInt ≤ (gV τ 22 0 6).toInt ∧ Pb τ ∧ LW T N (tE T N (tE T N (tE T N (tE T N i)))) τ.2.2.1))) := by
  refine Mc.of (L0 := [some (.ref (G.1 22 0)), none]) (by decide) (Nat.le_of_ble_eq_true rfl) rfl ?_
  intro p e s m args below meth c C hr hlk
  have C : Cx p s m args c cX12_takeStone 2 "LeanTowerModel" := C
  have k0 : (0 : Int32).toInt = 0 := by decide
  have k1 : (1 : Int32).toInt = 1 := by decide
  have u1 : IV (gV σ 22 0 11) 0 400 := hI.1 22 0 11
  have u2 : IV (gV σ 22 0 6) 0 400 := hI.1 22 0 6
  have u3 : IV (gV σ 23 0 152) 0 7 := hI.1 23 0 152
  have u4 : IV (gV σ 23 0 188) 0 4 := hI.1 23 0 188
  have q5 : (gV σ 22 0 6).toInt = (N : Int) := hT.1
  have q6 := hT.2.1
  have b7 : IV (gV σ 22 0 16) 0 0 := ⟨by omega, by omega⟩
  refine m_aload_n C dX12_takeStone_0 rfl rfl ?_
  refine g_22_0 C q4_116 dX12_takeStone_1 ?_
  refine m_sipush (v := 188) C dX12_takeStone_4 (by decide) ?_
  refine al_23 C kc_188 (by decide) kn_188 dX12_takeStone_7 ?_
  refine m_eqs (w := (gV σ 23 0 188)) rfl ?_
  refine m_istore_n (L1 := [some (.ref (G.1 22 0)), some (.int (gV σ 23 0 188))]) C dX12_takeStone_8 rfl (by decide) rfl rfl ?_
  refine m_iload_n C dX12_takeStone_9 rfl rfl ?_
  refine m_iconst (v := 4) C dX12_takeStone_10 (by decide) ?_
  refine m_icmp_ne (tgt := 20) C dX12_takeStone_11 (by decide) (fun c8 => ?_) (fun c8 => ?_)
  · have f9 : (gV σ 23 0 188).toInt ≠ 4 := by
      have q : _ := c8
      simp only [ti_nle, ti_nlt, ti_le, ti_lt, ti_eq, ti_ne, Classical.not_not, kt_4] at q
      omega
    have b10 : IV (gV σ 23 0 188) 0 3 := ⟨by have q1 := u4; have q2 := kc_4; omega, by have q1 := u4; have q2 := kc_4; omega⟩
    refine m_aload_n C dX12_takeStone_20 rfl rfl ?_
    refine m_callV (n := 0) (ci := 11) (st := []) C (c_X12_nextE l G σ T N (tE T N i)  hI hT (by omega)) (by decide) (by decide) rfl rfl rfl q4_231 q4_228 q4_230 q0_28 q1_7 (by decide +kernel) rfl (by decide) (by decide) rfl (Nat.le_of_ble_eq_true rfl) dX12_takeStone_21 ?_
    rintro _ τ11 ⟨rfl, i12, f13, h17⟩
    have g16 : Fr MS_X12_takeStoneE AS_X12_takeStoneE σ τ11 := Fr.call (Fr.rf) f13 (by decide)
    clear hcur
    have v18 : Pb τ11 := hPb.call (fun k => f13.1 23 0 k (by simp) (by decide))
    have v19 : TpM τ11 T N := hT.fr f13 (by decide) (by decide) (by simp) (by decide)
    obtain ⟨h20, h22, v21⟩ := h17
    have u23 : IV (gV τ11 22 0 11) 0 400 := i12.1 22 0 11
    have q24 : (gV τ11 22 0 16).toInt = (gV σ 22 0 16).toInt := congrArg Int32.toInt (show (gV τ11 22 0 16) = (gV σ 22 0 16) from (show gV τ11 22 0 16 = (gV σ 22 0 16) from (f13.1 22 0 (16) (by decide) (by decide)).trans rfl))
    have q25 : (gV τ11 22 0 6).toInt = (gV σ 22 0 6).toInt := congrArg Int32.toInt (show (gV τ11 22 0 6) = (gV σ 22 0 6) from (show gV τ11 22 0 6 = (gV σ 22 0 6) from (f13.1 22 0 (6) (by decide) (by decide)).trans rfl))
    have q26 : (gV τ11 23 0 150).toInt = (gV σ 23 0 150).toInt := congrArg Int32.toInt (show (gV τ11 23 0 150) = (gV σ 23 0 150) from (show gV τ11 23 0 150 = (gV σ 23 0 150) from (f13.1 23 0 (150) (by decide) (by decide)).trans rfl))
    have q27 : (gV τ11 23 0 152).toInt = (gV σ 23 0 152).toInt := congrArg Int32.toInt (show (gV τ11 23 0 152) = (gV σ 23 0 152) from (show gV τ11 23 0 152 = (gV σ 23 0 152) from (f13.1 23 0 (152) (by decide) (by decide)).trans rfl))
    have q28 : (gV τ11 23 0 188).toInt = (gV σ 23 0 188).toInt := congrArg Int32.toInt (show (gV τ11 23 0 188) = (gV σ 23 0 188) from (show gV τ11 23 0 188 = (gV σ 23 0 188) from (f13.1 23 0 (188) (by decide) (by decide)).trans rfl))
    show MW p l e _ s m args below meth c _ 2 G 0 0 24 [some (.ref (G.1 22 0)), some (.int (gV σ 23 0 188))] [] τ11
    refine m_aload_n C dX12_takeStone_24 rfl rfl ?_
    refine g_22_0 C q4_116 dX12_takeStone_25 ?_
    refine m_sipush (v := 189) C dX12_takeStone_28 (by decide) ?_
    refine m_iload_n C dX12_takeStone_31 rfl rfl ?_
    refine m_iadd C dX12_takeStone_32 ?_
    refine m_topi (fun x29 ex29 => ?_)
    have tx29 : x29.toInt = 189 + (gV σ 23 0 188).toInt := by rw [ex29, ti_addv kc_189 b10 (by decide), kt_189]
    have b30 : IV x29 189 192 := by rw [ex29]; exact iv_add kc_189 b10 (by decide)
    refine m_aload_n C dX12_takeStone_33 rfl rfl ?_
    refine m_iconst (v := 1) C dX12_takeStone_34 (by decide) ?_
    refine m_bipush (v := 20) C dX12_takeStone_35 (by decide) ?_
    refine m_iconst (v := 1) C dX12_takeStone_37 (by decide) ?_
    have q31 := kt_1
    have q32 := kt_20
    have q33 := kt_1
    refine m_callV (n := 3) (ci := 11) (st := [.int x29, .ref (G.1 23 0)]) C (c_X12_takeNumberE l G τ11 T N (tE T N i) (1) (20) (1) i12 v19 (by omega) (by omega)) (by decide) (by decide) rfl rfl rfl q5_7 q5_4 q5_6 q0_30 q1_7 (by decide +kernel) rfl (by decide) (by decide) rfl (Nat.le_of_ble_eq_true rfl) dX12_takeStone_38 ?_
    rintro _ τ34 ⟨x37, rfl, i35, f36, b38, h40⟩
    have g39 : Fr MS_X12_takeStoneE AS_X12_takeStoneE σ τ34 := Fr.call (g16) f36 (by decide)
    clear h20
    have v41 : Pb τ34 := v18.call (fun k => f36.1 23 0 k (by simp) (by decide))
    have v42 : TpM τ34 T N := v19.fr f36 (by decide) (by decide) (by simp) (by decide)
    have u43 : IV (gV τ34 22 0 11) 0 400 := i35.1 22 0 11
    have q44 : (gV τ34 22 0 6).toInt = (gV σ 22 0 6).toInt := congrArg Int32.toInt (show (gV τ34 22 0 6) = (gV σ 22 0 6) from (show gV τ34 22 0 6 = (gV σ 22 0 6) from (f36.1 22 0 (6) (by decide) (by decide)).trans (show gV τ11 22 0 6 = (gV σ 22 0 6) from (f13.1 22 0 (6) (by decide) (by decide)).trans rfl)))
    have q45 : (gV τ34 23 0 150).toInt = (gV σ 23 0 150).toInt := congrArg Int32.toInt (show (gV τ34 23 0 150) = (gV σ 23 0 150) from (show gV τ34 23 0 150 = (gV σ 23 0 150) from (f36.1 23 0 (150) (by decide) (by decide)).trans (show gV τ11 23 0 150 = (gV σ 23 0 150) from (f13.1 23 0 (150) (by decide) (by decide)).trans rfl)))
    have q46 : (gV τ34 23 0 152).toInt = (gV σ 23 0 152).toInt := congrArg Int32.toInt (show (gV τ34 23 0 152) = (gV σ 23 0 152) from (show gV τ34 23 0 152 = (gV σ 23 0 152) from (f36.1 23 0 (152) (by decide) (by decide)).trans (show gV τ11 23 0 152 = (gV σ 23 0 152) from (f13.1 23 0 (152) (by decide) (by decide)).trans rfl)))
    have q47 : (gV τ34 23 0 188).toInt = (gV σ 23 0 188).toInt := congrArg Int32.toInt (show (gV τ34 23 0 188) = (gV σ 23 0 188) from (show gV τ34 23 0 188 = (gV σ 23 0 188) from (f36.1 23 0 (188) (by decide) (by decide)).trans (show gV τ11 23 0 188 = (gV σ 23 0 188) from (f13.1 23 0 (188) (by decide) (by decide)).trans rfl)))
    rcases h40 with ⟨h40_0, h40_1, h40_2, h40_3, h40_4⟩ | ⟨h40_0, h40_1, h40_2, h40_3, h40_4, h40_5, h40_6⟩ | ⟨h40_0, h40_1, h40_2, h40_3, h40_4, h40_5, h40_6⟩
    · skip
      have b48 : IV x37 (-1) (-1) := ⟨by omega, by omega⟩
      have b49 : IV (gV τ34 22 0 16) 1 1 := ⟨by omega, by omega⟩
      show MW p l e _ s m args below meth c _ 2 G 0 0 41 [some (.ref (G.1 22 0)), some (.int (gV σ 23 0 188))] [.int x37, .int x29, .ref (G.1 23 0)] τ34
      refine as_23 C b30 (by decide) rfl dX12_takeStone_41 ?_
      refine m_tops (fun τ50 eτ50 => ?_)
      have i51 : Inv τ50 := eτ50 ▸ Inv.putRo i35 (by omega)
      have f52 : Fr MS_X12_takeStoneE AS_X12_takeStoneE σ τ50 := eτ50 ▸ Fr.put (g39) (Or.inr (by decide))
      have v53 : Pb τ50 := v41.put eτ50 (Or.inr (by omega))
      have v54 : TpM τ50 T N := v42.put eτ50 (Or.inl (by decide)) (by decide)
      refine m_aload_n C dX12_takeStone_42 rfl rfl ?_
      refine g_22_0 C q4_116 dX12_takeStone_43 ?_
      refine m_sipush (v := 193) C dX12_takeStone_46 (by decide) ?_
      refine m_iload_n C dX12_takeStone_49 rfl rfl ?_
      refine m_iadd C dX12_takeStone_50 ?_
      refine m_topi (fun x55 ex55 => ?_)
      have tx55 : x55.toInt = 193 + (gV σ 23 0 188).toInt := by rw [ex55, ti_addv kc_193 b10 (by decide), kt_193]
      have b56 : IV x55 193 196 := by rw [ex55]; exact iv_add kc_193 b10 (by decide)
      refine m_aload_n C dX12_takeStone_51 rfl rfl ?_
      refine g_22_16 C q4_132 dX12_takeStone_52 ?_
      refine m_eqs (w := (gV τ34 22 0 16)) (show gV τ50 22 0 16 = (gV τ34 22 0 16) from gV_put eτ50 rfl) ?_
      refine m_if_ne (tgt := 68) C dX12_takeStone_55 (by decide) (fun c57 => ?_) (fun c57 => ?_)
      · have f58 : (gV τ34 22 0 16).toInt ≠ 0 := by
          have q : _ := c57
          simp only [ti_nle, ti_nlt, ti_le, ti_lt, ti_eq, ti_ne, Classical.not_not, kt_0] at q
          omega
        refine m_iconst (v := 0) C dX12_takeStone_68 (by decide) ?_
        refine as_23 C b56 (by decide) rfl dX12_takeStone_69 ?_
        refine m_tops (fun τ59 eτ59 => ?_)
        have i60 : Inv τ59 := eτ59 ▸ Inv.putR0 i51 (by omega) kt_0
        have f61 : Fr MS_X12_takeStoneE AS_X12_takeStoneE σ τ59 := eτ59 ▸ Fr.put (f52) (Or.inr (by decide))
        have v62 : Pb τ59 := v53.put eτ59 (Or.inr (by omega))
        have v63 : TpM τ59 T N := v54.put eτ59 (Or.inl (by decide)) (by decide)
        refine m_aload_n C dX12_takeStone_70 rfl rfl ?_
        refine g_22_0 C q4_116 dX12_takeStone_71 ?_
        refine m_sipush (v := 188) C dX12_takeStone_74 (by decide) ?_
        refine m_dup2 C dX12_takeStone_77 rfl rfl ?_
        refine al_23 C kc_188 (by decide) kn_188 dX12_takeStone_78 ?_
        refine m_eqs (w := (gV σ 23 0 188)) (show gV τ59 23 0 188 = (gV σ 23 0 188) from (gV_putn eτ59 (Or.inr (Or.inr (by omega)))).trans (show gV τ50 23 0 188 = (gV σ 23 0 188) from (gV_putn eτ50 (Or.inr (Or.inr (by omega)))).trans (show gV τ34 23 0 188 = (gV σ 23 0 188) from (f36.1 23 0 (188) (by decide) (by decide)).trans (show gV τ11 23 0 188 = (gV σ 23 0 188) from (f13.1 23 0 (188) (by decide) (by decide)).trans rfl)))) ?_
        refine m_iconst (v := 1) C dX12_takeStone_79 (by decide) ?_
        refine m_iadd C dX12_takeStone_80 ?_
        refine m_topi (fun x64 ex64 => ?_)
        have tx64 : x64.toInt = (gV σ 23 0 188).toInt + 1 := by rw [ex64, ti_addv b10 kc_1 (by decide), kt_1]
        have b65 : IV x64 1 4 := by rw [ex64]; exact iv_add b10 kc_1 (by decide)
        refine as_23 C kc_188 (by decide) kn_188 dX12_takeStone_81 ?_
        refine m_tops (fun τ66 eτ66 => ?_)
        have i67 : Inv τ66 := eτ66 ▸ Inv.putR i60 (by decide) (iv_wk b65 (by decide))
        have f68 : Fr MS_X12_takeStoneE AS_X12_takeStoneE σ τ66 := eτ66 ▸ Fr.put (f61) (Or.inr (by decide))
        have v69 : Pb τ66 := v62.put eτ66 (Or.inr (by omega))
        have v70 : TpM τ66 T N := v63.put eτ66 (Or.inl (by decide)) (by decide)
        refine m_aload_n C dX12_takeStone_82 rfl rfl ?_
        have q71 : (gV τ66 22 0 6).toInt = (gV σ 22 0 6).toInt := congrArg Int32.toInt (show (gV τ66 22 0 6) = (gV σ 22 0 6) from (show gV τ66 22 0 6 = (gV σ 22 0 6) from gV_put eτ66 (show gV τ59 22 0 6 = (gV σ 22 0 6) from gV_put eτ59 (show gV τ50 22 0 6 = (gV σ 22 0 6) from gV_put eτ50 (show gV τ34 22 0 6 = (gV σ 22 0 6) from (f36.1 22 0 (6) (by decide) (by decide)).trans (show gV τ11 22 0 6 = (gV σ 22 0 6) from (f13.1 22 0 (6) (by decide) (by decide)).trans rfl))))))
        have q72 : (gV τ66 23 0 150).toInt = (gV σ 23 0 150).toInt := congrArg Int32.toInt (show (gV τ66 23 0 150) = (gV σ 23 0 150) from (show gV τ66 23 0 150 = (gV σ 23 0 150) from gV_put eτ66 (show gV τ59 23 0 150 = (gV σ 23 0 150) from (gV_putn eτ59 (Or.inr (Or.inr (by omega)))).trans (show gV τ50 23 0 150 = (gV σ 23 0 150) from (gV_putn eτ50 (Or.inr (Or.inr (by omega)))).trans (show gV τ34 23 0 150 = (gV σ 23 0 150) from (f36.1 23 0 (150) (by decide) (by decide)).trans (show gV τ11 23 0 150 = (gV σ 23 0 150) from (f13.1 23 0 (150) (by decide) (by decide)).trans rfl))))))
        have q73 : (gV τ66 23 0 152).toInt = (gV σ 23 0 152).toInt := congrArg Int32.toInt (show (gV τ66 23 0 152) = (gV σ 23 0 152) from (show gV τ66 23 0 152 = (gV σ 23 0 152) from gV_put eτ66 (show gV τ59 23 0 152 = (gV σ 23 0 152) from (gV_putn eτ59 (Or.inr (Or.inr (by omega)))).trans (show gV τ50 23 0 152 = (gV σ 23 0 152) from (gV_putn eτ50 (Or.inr (Or.inr (by omega)))).trans (show gV τ34 23 0 152 = (gV σ 23 0 152) from (f36.1 23 0 (152) (by decide) (by decide)).trans (show gV τ11 23 0 152 = (gV σ 23 0 152) from (f13.1 23 0 (152) (by decide) (by decide)).trans rfl))))))
        have q74 : (gV τ66 22 0 11).toInt = (gV τ34 22 0 11).toInt := congrArg Int32.toInt (show (gV τ66 22 0 11) = (gV τ34 22 0 11) from (show gV τ66 22 0 11 = (gV τ34 22 0 11) from gV_put eτ66 (show gV τ59 22 0 11 = (gV τ34 22 0 11) from gV_put eτ59 (show gV τ50 22 0 11 = (gV τ34 22 0 11) from gV_put eτ50 rfl))))
        have q75 : (gV τ66 22 0 12).toInt = (gV τ34 22 0 12).toInt := congrArg Int32.toInt (show (gV τ66 22 0 12) = (gV τ34 22 0 12) from (show gV τ66 22 0 12 = (gV τ34 22 0 12) from gV_put eτ66 (show gV τ59 22 0 12 = (gV τ34 22 0 12) from gV_put eτ59 (show gV τ50 22 0 12 = (gV τ34 22 0 12) from gV_put eτ50 rfl))))
        have q76 : (gV τ66 22 0 13).toInt = (gV τ34 22 0 13).toInt := congrArg Int32.toInt (show (gV τ66 22 0 13) = (gV τ34 22 0 13) from (show gV τ66 22 0 13 = (gV τ34 22 0 13) from gV_put eτ66 (show gV τ59 22 0 13 = (gV τ34 22 0 13) from gV_put eτ59 (show gV τ50 22 0 13 = (gV τ34 22 0 13) from gV_put eτ50 rfl))))
        have q77 : (gV τ66 22 0 15).toInt = (gV τ34 22 0 15).toInt := congrArg Int32.toInt (show (gV τ66 22 0 15) = (gV τ34 22 0 15) from (show gV τ66 22 0 15 = (gV τ34 22 0 15) from gV_put eτ66 (show gV τ59 22 0 15 = (gV τ34 22 0 15) from gV_put eτ59 (show gV τ50 22 0 15 = (gV τ34 22 0 15) from gV_put eτ50 rfl))))
        have q78 : (gV τ66 22 0 16).toInt = (gV τ34 22 0 16).toInt := congrArg Int32.toInt (show (gV τ66 22 0 16) = (gV τ34 22 0 16) from (show gV τ66 22 0 16 = (gV τ34 22 0 16) from gV_put eτ66 (show gV τ59 22 0 16 = (gV τ34 22 0 16) from gV_put eτ59 (show gV τ50 22 0 16 = (gV τ34 22 0 16) from gV_put eτ50 rfl))))
        have q79 : (gV τ66 23 0 188).toInt = x64.toInt := congrArg Int32.toInt (show (gV τ66 23 0 188) = x64 from (show gV τ66 23 0 188 = x64 from gV_put eτ66 (gV_self _ _ _ _ _)))
        refine m_callV (n := 0) (ci := 11) (st := []) C (c_X12_takeSignE l G τ66 T N (tE T N (tE T N i))  i67 v70 (by omega) (by omega)) (by decide) (by decide) rfl rfl rfl q5_15 q5_12 q5_14 q0_32 q1_7 (by decide +kernel) rfl (by decide) (by decide) rfl (Nat.le_of_ble_eq_true rfl) dX12_takeStone_83 ?_
        rintro _ τ80 ⟨rfl, i81, f82, h86⟩
        have g85 : Fr MS_X12_takeStoneE AS_X12_takeStoneE σ τ80 := Fr.call (f68) f82 (by decide)
        have v87 : Pb τ80 := v69.call (fun k => f82.1 23 0 k (by simp) (by decide))
        have v88 : TpM τ80 T N := v70.fr f82 (by decide) (by decide) (by simp) (by decide)
        have u89 : IV (gV τ80 22 0 11) 0 400 := i81.1 22 0 11
        have q90 : (gV τ80 22 0 6).toInt = (gV σ 22 0 6).toInt := congrArg Int32.toInt (show (gV τ80 22 0 6) = (gV σ 22 0 6) from (show gV τ80 22 0 6 = (gV σ 22 0 6) from (f82.1 22 0 (6) (by decide) (by decide)).trans (show gV τ66 22 0 6 = (gV σ 22 0 6) from gV_put eτ66 (show gV τ59 22 0 6 = (gV σ 22 0 6) from gV_put eτ59 (show gV τ50 22 0 6 = (gV σ 22 0 6) from gV_put eτ50 (show gV τ34 22 0 6 = (gV σ 22 0 6) from (f36.1 22 0 (6) (by decide) (by decide)).trans (show gV τ11 22 0 6 = (gV σ 22 0 6) from (f13.1 22 0 (6) (by decide) (by decide)).trans rfl)))))))
        have q91 : (gV τ80 23 0 150).toInt = (gV σ 23 0 150).toInt := congrArg Int32.toInt (show (gV τ80 23 0 150) = (gV σ 23 0 150) from (show gV τ80 23 0 150 = (gV σ 23 0 150) from (f82.1 23 0 (150) (by decide) (by decide)).trans (show gV τ66 23 0 150 = (gV σ 23 0 150) from gV_put eτ66 (show gV τ59 23 0 150 = (gV σ 23 0 150) from (gV_putn eτ59 (Or.inr (Or.inr (by omega)))).trans (show gV τ50 23 0 150 = (gV σ 23 0 150) from (gV_putn eτ50 (Or.inr (Or.inr (by omega)))).trans (show gV τ34 23 0 150 = (gV σ 23 0 150) from (f36.1 23 0 (150) (by decide) (by decide)).trans (show gV τ11 23 0 150 = (gV σ 23 0 150) from (f13.1 23 0 (150) (by decide) (by decide)).trans rfl)))))))
        have q92 : (gV τ80 23 0 152).toInt = (gV σ 23 0 152).toInt := congrArg Int32.toInt (show (gV τ80 23 0 152) = (gV σ 23 0 152) from (show gV τ80 23 0 152 = (gV σ 23 0 152) from (f82.1 23 0 (152) (by decide) (by decide)).trans (show gV τ66 23 0 152 = (gV σ 23 0 152) from gV_put eτ66 (show gV τ59 23 0 152 = (gV σ 23 0 152) from (gV_putn eτ59 (Or.inr (Or.inr (by omega)))).trans (show gV τ50 23 0 152 = (gV σ 23 0 152) from (gV_putn eτ50 (Or.inr (Or.inr (by omega)))).trans (show gV τ34 23 0 152 = (gV σ 23 0 152) from (f36.1 23 0 (152) (by decide) (by decide)).trans (show gV τ11 23 0 152 = (gV σ 23 0 152) from (f13.1 23 0 (152) (by decide) (by decide)).trans rfl)))))))
        have q93 : (gV τ80 23 0 188).toInt = x64.toInt := congrArg Int32.toInt (show (gV τ80 23 0 188) = x64 from (show gV τ80 23 0 188 = x64 from (f82.1 23 0 (188) (by decide) (by decide)).trans (show gV τ66 23 0 188 = x64 from gV_put eτ66 (gV_self _ _ _ _ _))))
        rcases h86 with ⟨h86_0, h86_1, h86_2, h86_3⟩ | ⟨h86_0, h86_1, h86_2, h86_3, h86_4⟩ | ⟨h86_0, h86_1, h86_2, h86_3, h86_4, h86_5⟩
        · skip
          show MW p l e _ s m args below meth c _ 2 G 0 0 86 [some (.ref (G.1 22 0)), some (.int (gV σ 23 0 188))] [] τ80
          exact m_vret C hr hlk (by decide) (by decide) dX12_takeStone_86 ⟨rfl, i81, g85, (by have qd := sto_1 T N cc i (by omega) (by omega); exact Or.inl ⟨by omega, by omega, by omega, by omega, by omega, by omega, v87⟩)⟩
        · skip
          exfalso; omega
        · skip
          exfalso; omega
      · exfalso
        have q : _ := c57
        simp only [ti_nle, ti_nlt, ti_le, ti_lt, ti_eq, ti_ne, Classical.not_not, kt_0] at q
        have q1 := b49; have q2 := kc_0; omega
    · skip
      have b95 : IV x37 (-1) (-1) := ⟨by omega, by omega⟩
      have b96 : IV (gV τ34 22 0 16) 2 2 := ⟨by omega, by omega⟩
      show MW p l e _ s m args below meth c _ 2 G 0 0 41 [some (.ref (G.1 22 0)), some (.int (gV σ 23 0 188))] [.int x37, .int x29, .ref (G.1 23 0)] τ34
      refine as_23 C b30 (by decide) rfl dX12_takeStone_41 ?_
      refine m_tops (fun τ97 eτ97 => ?_)
      have i98 : Inv τ97 := eτ97 ▸ Inv.putRo i35 (by omega)
      have f99 : Fr MS_X12_takeStoneE AS_X12_takeStoneE σ τ97 := eτ97 ▸ Fr.put (g39) (Or.inr (by decide))
      have v100 : Pb τ97 := v41.put eτ97 (Or.inr (by omega))
      have v101 : TpM τ97 T N := v42.put eτ97 (Or.inl (by decide)) (by decide)
      refine m_aload_n C dX12_takeStone_42 rfl rfl ?_
      refine g_22_0 C q4_116 dX12_takeStone_43 ?_
      refine m_sipush (v := 193) C dX12_takeStone_46 (by decide) ?_
      refine m_iload_n C dX12_takeStone_49 rfl rfl ?_
      refine m_iadd C dX12_takeStone_50 ?_
      refine m_topi (fun x102 ex102 => ?_)
      have tx102 : x102.toInt = 193 + (gV σ 23 0 188).toInt := by rw [ex102, ti_addv kc_193 b10 (by decide), kt_193]
      have b103 : IV x102 193 196 := by rw [ex102]; exact iv_add kc_193 b10 (by decide)
      refine m_aload_n C dX12_takeStone_51 rfl rfl ?_
      refine g_22_16 C q4_132 dX12_takeStone_52 ?_
      refine m_eqs (w := (gV τ34 22 0 16)) (show gV τ97 22 0 16 = (gV τ34 22 0 16) from gV_put eτ97 rfl) ?_
      refine m_if_ne (tgt := 68) C dX12_takeStone_55 (by decide) (fun c104 => ?_) (fun c104 => ?_)
      · have f105 : (gV τ34 22 0 16).toInt ≠ 0 := by
          have q : _ := c104
          simp only [ti_nle, ti_nlt, ti_le, ti_lt, ti_eq, ti_ne, Classical.not_not, kt_0] at q
          omega
        refine m_iconst (v := 0) C dX12_takeStone_68 (by decide) ?_
        refine as_23 C b103 (by decide) rfl dX12_takeStone_69 ?_
        refine m_tops (fun τ106 eτ106 => ?_)
        have i107 : Inv τ106 := eτ106 ▸ Inv.putR0 i98 (by omega) kt_0
        have f108 : Fr MS_X12_takeStoneE AS_X12_takeStoneE σ τ106 := eτ106 ▸ Fr.put (f99) (Or.inr (by decide))
        have v109 : Pb τ106 := v100.put eτ106 (Or.inr (by omega))
        have v110 : TpM τ106 T N := v101.put eτ106 (Or.inl (by decide)) (by decide)
        refine m_aload_n C dX12_takeStone_70 rfl rfl ?_
        refine g_22_0 C q4_116 dX12_takeStone_71 ?_
        refine m_sipush (v := 188) C dX12_takeStone_74 (by decide) ?_
        refine m_dup2 C dX12_takeStone_77 rfl rfl ?_
        refine al_23 C kc_188 (by decide) kn_188 dX12_takeStone_78 ?_
        refine m_eqs (w := (gV σ 23 0 188)) (show gV τ106 23 0 188 = (gV σ 23 0 188) from (gV_putn eτ106 (Or.inr (Or.inr (by omega)))).trans (show gV τ97 23 0 188 = (gV σ 23 0 188) from (gV_putn eτ97 (Or.inr (Or.inr (by omega)))).trans (show gV τ34 23 0 188 = (gV σ 23 0 188) from (f36.1 23 0 (188) (by decide) (by decide)).trans (show gV τ11 23 0 188 = (gV σ 23 0 188) from (f13.1 23 0 (188) (by decide) (by decide)).trans rfl)))) ?_
        refine m_iconst (v := 1) C dX12_takeStone_79 (by decide) ?_
        refine m_iadd C dX12_takeStone_80 ?_
        refine m_topi (fun x111 ex111 => ?_)
        have tx111 : x111.toInt = (gV σ 23 0 188).toInt + 1 := by rw [ex111, ti_addv b10 kc_1 (by decide), kt_1]
        have b112 : IV x111 1 4 := by rw [ex111]; exact iv_add b10 kc_1 (by decide)
        refine as_23 C kc_188 (by decide) kn_188 dX12_takeStone_81 ?_
        refine m_tops (fun τ113 eτ113 => ?_)
        have i114 : Inv τ113 := eτ113 ▸ Inv.putR i107 (by decide) (iv_wk b112 (by decide))
        have f115 : Fr MS_X12_takeStoneE AS_X12_takeStoneE σ τ113 := eτ113 ▸ Fr.put (f108) (Or.inr (by decide))
        have v116 : Pb τ113 := v109.put eτ113 (Or.inr (by omega))
        have v117 : TpM τ113 T N := v110.put eτ113 (Or.inl (by decide)) (by decide)
        refine m_aload_n C dX12_takeStone_82 rfl rfl ?_
        have q118 : (gV τ113 22 0 6).toInt = (gV σ 22 0 6).toInt := congrArg Int32.toInt (show (gV τ113 22 0 6) = (gV σ 22 0 6) from (show gV τ113 22 0 6 = (gV σ 22 0 6) from gV_put eτ113 (show gV τ106 22 0 6 = (gV σ 22 0 6) from gV_put eτ106 (show gV τ97 22 0 6 = (gV σ 22 0 6) from gV_put eτ97 (show gV τ34 22 0 6 = (gV σ 22 0 6) from (f36.1 22 0 (6) (by decide) (by decide)).trans (show gV τ11 22 0 6 = (gV σ 22 0 6) from (f13.1 22 0 (6) (by decide) (by decide)).trans rfl))))))
        have q119 : (gV τ113 23 0 150).toInt = (gV σ 23 0 150).toInt := congrArg Int32.toInt (show (gV τ113 23 0 150) = (gV σ 23 0 150) from (show gV τ113 23 0 150 = (gV σ 23 0 150) from gV_put eτ113 (show gV τ106 23 0 150 = (gV σ 23 0 150) from (gV_putn eτ106 (Or.inr (Or.inr (by omega)))).trans (show gV τ97 23 0 150 = (gV σ 23 0 150) from (gV_putn eτ97 (Or.inr (Or.inr (by omega)))).trans (show gV τ34 23 0 150 = (gV σ 23 0 150) from (f36.1 23 0 (150) (by decide) (by decide)).trans (show gV τ11 23 0 150 = (gV σ 23 0 150) from (f13.1 23 0 (150) (by decide) (by decide)).trans rfl))))))
        have q120 : (gV τ113 23 0 152).toInt = (gV σ 23 0 152).toInt := congrArg Int32.toInt (show (gV τ113 23 0 152) = (gV σ 23 0 152) from (show gV τ113 23 0 152 = (gV σ 23 0 152) from gV_put eτ113 (show gV τ106 23 0 152 = (gV σ 23 0 152) from (gV_putn eτ106 (Or.inr (Or.inr (by omega)))).trans (show gV τ97 23 0 152 = (gV σ 23 0 152) from (gV_putn eτ97 (Or.inr (Or.inr (by omega)))).trans (show gV τ34 23 0 152 = (gV σ 23 0 152) from (f36.1 23 0 (152) (by decide) (by decide)).trans (show gV τ11 23 0 152 = (gV σ 23 0 152) from (f13.1 23 0 (152) (by decide) (by decide)).trans rfl))))))
        have q121 : (gV τ113 22 0 11).toInt = (gV τ34 22 0 11).toInt := congrArg Int32.toInt (show (gV τ113 22 0 11) = (gV τ34 22 0 11) from (show gV τ113 22 0 11 = (gV τ34 22 0 11) from gV_put eτ113 (show gV τ106 22 0 11 = (gV τ34 22 0 11) from gV_put eτ106 (show gV τ97 22 0 11 = (gV τ34 22 0 11) from gV_put eτ97 rfl))))
        have q122 : (gV τ113 22 0 12).toInt = (gV τ34 22 0 12).toInt := congrArg Int32.toInt (show (gV τ113 22 0 12) = (gV τ34 22 0 12) from (show gV τ113 22 0 12 = (gV τ34 22 0 12) from gV_put eτ113 (show gV τ106 22 0 12 = (gV τ34 22 0 12) from gV_put eτ106 (show gV τ97 22 0 12 = (gV τ34 22 0 12) from gV_put eτ97 rfl))))
        have q123 : (gV τ113 22 0 13).toInt = (gV τ34 22 0 13).toInt := congrArg Int32.toInt (show (gV τ113 22 0 13) = (gV τ34 22 0 13) from (show gV τ113 22 0 13 = (gV τ34 22 0 13) from gV_put eτ113 (show gV τ106 22 0 13 = (gV τ34 22 0 13) from gV_put eτ106 (show gV τ97 22 0 13 = (gV τ34 22 0 13) from gV_put eτ97 rfl))))
        have q124 : (gV τ113 22 0 15).toInt = (gV τ34 22 0 15).toInt := congrArg Int32.toInt (show (gV τ113 22 0 15) = (gV τ34 22 0 15) from (show gV τ113 22 0 15 = (gV τ34 22 0 15) from gV_put eτ113 (show gV τ106 22 0 15 = (gV τ34 22 0 15) from gV_put eτ106 (show gV τ97 22 0 15 = (gV τ34 22 0 15) from gV_put eτ97 rfl))))
        have q125 : (gV τ113 22 0 16).toInt = (gV τ34 22 0 16).toInt := congrArg Int32.toInt (show (gV τ113 22 0 16) = (gV τ34 22 0 16) from (show gV τ113 22 0 16 = (gV τ34 22 0 16) from gV_put eτ113 (show gV τ106 22 0 16 = (gV τ34 22 0 16) from gV_put eτ106 (show gV τ97 22 0 16 = (gV τ34 22 0 16) from gV_put eτ97 rfl))))
        have q126 : (gV τ113 23 0 188).toInt = x111.toInt := congrArg Int32.toInt (show (gV τ113 23 0 188) = x111 from (show gV τ113 23 0 188 = x111 from gV_put eτ113 (gV_self _ _ _ _ _)))
        refine m_callV (n := 0) (ci := 11) (st := []) C (c_X12_takeSignE l G τ113 T N (tE T N (tE T N i))  i114 v117 (by omega) (by omega)) (by decide) (by decide) rfl rfl rfl q5_15 q5_12 q5_14 q0_32 q1_7 (by decide +kernel) rfl (by decide) (by decide) rfl (Nat.le_of_ble_eq_true rfl) dX12_takeStone_83 ?_
        rintro _ τ127 ⟨rfl, i128, f129, h133⟩
        have g132 : Fr MS_X12_takeStoneE AS_X12_takeStoneE σ τ127 := Fr.call (f115) f129 (by decide)
        have v134 : Pb τ127 := v116.call (fun k => f129.1 23 0 k (by simp) (by decide))
        have v135 : TpM τ127 T N := v117.fr f129 (by decide) (by decide) (by simp) (by decide)
        have u136 : IV (gV τ127 22 0 11) 0 400 := i128.1 22 0 11
        have q137 : (gV τ127 22 0 6).toInt = (gV σ 22 0 6).toInt := congrArg Int32.toInt (show (gV τ127 22 0 6) = (gV σ 22 0 6) from (show gV τ127 22 0 6 = (gV σ 22 0 6) from (f129.1 22 0 (6) (by decide) (by decide)).trans (show gV τ113 22 0 6 = (gV σ 22 0 6) from gV_put eτ113 (show gV τ106 22 0 6 = (gV σ 22 0 6) from gV_put eτ106 (show gV τ97 22 0 6 = (gV σ 22 0 6) from gV_put eτ97 (show gV τ34 22 0 6 = (gV σ 22 0 6) from (f36.1 22 0 (6) (by decide) (by decide)).trans (show gV τ11 22 0 6 = (gV σ 22 0 6) from (f13.1 22 0 (6) (by decide) (by decide)).trans rfl)))))))
        have q138 : (gV τ127 23 0 150).toInt = (gV σ 23 0 150).toInt := congrArg Int32.toInt (show (gV τ127 23 0 150) = (gV σ 23 0 150) from (show gV τ127 23 0 150 = (gV σ 23 0 150) from (f129.1 23 0 (150) (by decide) (by decide)).trans (show gV τ113 23 0 150 = (gV σ 23 0 150) from gV_put eτ113 (show gV τ106 23 0 150 = (gV σ 23 0 150) from (gV_putn eτ106 (Or.inr (Or.inr (by omega)))).trans (show gV τ97 23 0 150 = (gV σ 23 0 150) from (gV_putn eτ97 (Or.inr (Or.inr (by omega)))).trans (show gV τ34 23 0 150 = (gV σ 23 0 150) from (f36.1 23 0 (150) (by decide) (by decide)).trans (show gV τ11 23 0 150 = (gV σ 23 0 150) from (f13.1 23 0 (150) (by decide) (by decide)).trans rfl)))))))
        have q139 : (gV τ127 23 0 152).toInt = (gV σ 23 0 152).toInt := congrArg Int32.toInt (show (gV τ127 23 0 152) = (gV σ 23 0 152) from (show gV τ127 23 0 152 = (gV σ 23 0 152) from (f129.1 23 0 (152) (by decide) (by decide)).trans (show gV τ113 23 0 152 = (gV σ 23 0 152) from gV_put eτ113 (show gV τ106 23 0 152 = (gV σ 23 0 152) from (gV_putn eτ106 (Or.inr (Or.inr (by omega)))).trans (show gV τ97 23 0 152 = (gV σ 23 0 152) from (gV_putn eτ97 (Or.inr (Or.inr (by omega)))).trans (show gV τ34 23 0 152 = (gV σ 23 0 152) from (f36.1 23 0 (152) (by decide) (by decide)).trans (show gV τ11 23 0 152 = (gV σ 23 0 152) from (f13.1 23 0 (152) (by decide) (by decide)).trans rfl)))))))
        have q140 : (gV τ127 23 0 188).toInt = x111.toInt := congrArg Int32.toInt (show (gV τ127 23 0 188) = x111 from (show gV τ127 23 0 188 = x111 from (f129.1 23 0 (188) (by decide) (by decide)).trans (show gV τ113 23 0 188 = x111 from gV_put eτ113 (gV_self _ _ _ _ _))))
        rcases h133 with ⟨h133_0, h133_1, h133_2, h133_3⟩ | ⟨h133_0, h133_1, h133_2, h133_3, h133_4⟩ | ⟨h133_0, h133_1, h133_2, h133_3, h133_4, h133_5⟩
        · skip
          show MW p l e _ s m args below meth c _ 2 G 0 0 86 [some (.ref (G.1 22 0)), some (.int (gV σ 23 0 188))] [] τ127
          exact m_vret C hr hlk (by decide) (by decide) dX12_takeStone_86 ⟨rfl, i128, g132, (by have qd := sto_2 T N cc i (by omega) (by omega) (by omega); exact Or.inl ⟨by omega, by omega, by omega, by omega, by omega, by omega, v134⟩)⟩
        · skip
          exfalso; omega
        · skip
          exfalso; omega
      · exfalso
        have q : _ := c104
        simp only [ti_nle, ti_nlt, ti_le, ti_lt, ti_eq, ti_ne, Classical.not_not, kt_0] at q
        have q1 := b96; have q2 := kc_0; omega
    · skip
      have q142 : 1 ≤ tV T (tE T N i) ∧ tV T (tE T N i) ≤ 20 := by omega
      clear h40_1
      have b143 : IV (gV τ34 22 0 16) 0 0 := ⟨by omega, by omega⟩
      show MW p l e _ s m args below meth c _ 2 G 0 0 41 [some (.ref (G.1 22 0)), some (.int (gV σ 23 0 188))] [.int x37, .int x29, .ref (G.1 23 0)] τ34
      refine as_23 C b30 (by decide) rfl dX12_takeStone_41 ?_
      refine m_tops (fun τ144 eτ144 => ?_)
      have i145 : Inv τ144 := eτ144 ▸ Inv.putRo i35 (by omega)
      have f146 : Fr MS_X12_takeStoneE AS_X12_takeStoneE σ τ144 := eτ144 ▸ Fr.put (g39) (Or.inr (by decide))
      have v147 : Pb τ144 := v41.put eτ144 (Or.inr (by omega))
      have v148 : TpM τ144 T N := v42.put eτ144 (Or.inl (by decide)) (by decide)
      have v149 : LW T N (tE T N (tE T N i)) τ144.2.2.1 := by rw [eτ144]; exact h40_6
      refine m_aload_n C dX12_takeStone_42 rfl rfl ?_
      refine g_22_0 C q4_116 dX12_takeStone_43 ?_
      refine m_sipush (v := 193) C dX12_takeStone_46 (by decide) ?_
      refine m_iload_n C dX12_takeStone_49 rfl rfl ?_
      refine m_iadd C dX12_takeStone_50 ?_
      refine m_topi (fun x150 ex150 => ?_)
      have tx150 : x150.toInt = 193 + (gV σ 23 0 188).toInt := by rw [ex150, ti_addv kc_193 b10 (by decide), kt_193]
      have b151 : IV x150 193 196 := by rw [ex150]; exact iv_add kc_193 b10 (by decide)
      refine m_aload_n C dX12_takeStone_51 rfl rfl ?_
      refine g_22_16 C q4_132 dX12_takeStone_52 ?_
      refine m_eqs (w := (gV τ34 22 0 16)) (show gV τ144 22 0 16 = (gV τ34 22 0 16) from gV_put eτ144 rfl) ?_
      refine m_if_ne (tgt := 68) C dX12_takeStone_55 (by decide) (fun c152 => ?_) (fun c152 => ?_)
      · exfalso
        have q : _ := c152
        simp only [ti_nle, ti_nlt, ti_le, ti_lt, ti_eq, ti_ne, Classical.not_not, kt_0] at q
        have q1 := b143; have q2 := kc_0; omega
      · have f154 : (gV τ34 22 0 16).toInt = 0 := by
          have q : _ := c152
          simp only [ti_nle, ti_nlt, ti_le, ti_lt, ti_eq, ti_ne, Classical.not_not, kt_0] at q
          omega
        refine m_aload_n C dX12_takeStone_58 rfl rfl ?_
        refine m_iconst (v := 0) C dX12_takeStone_59 (by decide) ?_
        refine m_iconst (v := 3) C dX12_takeStone_60 (by decide) ?_
        refine m_iconst (v := 0) C dX12_takeStone_61 (by decide) ?_
        have q155 : (gV τ144 22 0 6).toInt = (gV σ 22 0 6).toInt := congrArg Int32.toInt (show (gV τ144 22 0 6) = (gV σ 22 0 6) from (show gV τ144 22 0 6 = (gV σ 22 0 6) from gV_put eτ144 (show gV τ34 22 0 6 = (gV σ 22 0 6) from (f36.1 22 0 (6) (by decide) (by decide)).trans (show gV τ11 22 0 6 = (gV σ 22 0 6) from (f13.1 22 0 (6) (by decide) (by decide)).trans rfl))))
        have q156 : (gV τ144 23 0 150).toInt = (gV σ 23 0 150).toInt := congrArg Int32.toInt (show (gV τ144 23 0 150) = (gV σ 23 0 150) from (show gV τ144 23 0 150 = (gV σ 23 0 150) from (gV_putn eτ144 (Or.inr (Or.inr (by omega)))).trans (show gV τ34 23 0 150 = (gV σ 23 0 150) from (f36.1 23 0 (150) (by decide) (by decide)).trans (show gV τ11 23 0 150 = (gV σ 23 0 150) from (f13.1 23 0 (150) (by decide) (by decide)).trans rfl))))
        have q157 : (gV τ144 23 0 152).toInt = (gV σ 23 0 152).toInt := congrArg Int32.toInt (show (gV τ144 23 0 152) = (gV σ 23 0 152) from (show gV τ144 23 0 152 = (gV σ 23 0 152) from (gV_putn eτ144 (Or.inr (Or.inr (by omega)))).trans (show gV τ34 23 0 152 = (gV σ 23 0 152) from (f36.1 23 0 (152) (by decide) (by decide)).trans (show gV τ11 23 0 152 = (gV σ 23 0 152) from (f13.1 23 0 (152) (by decide) (by decide)).trans rfl))))
        have q158 : (gV τ144 23 0 188).toInt = (gV σ 23 0 188).toInt := congrArg Int32.toInt (show (gV τ144 23 0 188) = (gV σ 23 0 188) from (show gV τ144 23 0 188 = (gV σ 23 0 188) from (gV_putn eτ144 (Or.inr (Or.inr (by omega)))).trans (show gV τ34 23 0 188 = (gV σ 23 0 188) from (f36.1 23 0 (188) (by decide) (by decide)).trans (show gV τ11 23 0 188 = (gV σ 23 0 188) from (f13.1 23 0 (188) (by decide) (by decide)).trans rfl))))
        have q159 : (gV τ144 22 0 11).toInt = (gV τ34 22 0 11).toInt := congrArg Int32.toInt (show (gV τ144 22 0 11) = (gV τ34 22 0 11) from (show gV τ144 22 0 11 = (gV τ34 22 0 11) from gV_put eτ144 rfl))
        have q160 : (gV τ144 22 0 12).toInt = (gV τ34 22 0 12).toInt := congrArg Int32.toInt (show (gV τ144 22 0 12) = (gV τ34 22 0 12) from (show gV τ144 22 0 12 = (gV τ34 22 0 12) from gV_put eτ144 rfl))
        have q161 : (gV τ144 22 0 13).toInt = (gV τ34 22 0 13).toInt := congrArg Int32.toInt (show (gV τ144 22 0 13) = (gV τ34 22 0 13) from (show gV τ144 22 0 13 = (gV τ34 22 0 13) from gV_put eτ144 rfl))
        have q162 : (gV τ144 22 0 15).toInt = (gV τ34 22 0 15).toInt := congrArg Int32.toInt (show (gV τ144 22 0 15) = (gV τ34 22 0 15) from (show gV τ144 22 0 15 = (gV τ34 22 0 15) from gV_put eτ144 rfl))
        have q163 : (gV τ144 22 0 16).toInt = (gV τ34 22 0 16).toInt := congrArg Int32.toInt (show (gV τ144 22 0 16) = (gV τ34 22 0 16) from (show gV τ144 22 0 16 = (gV τ34 22 0 16) from gV_put eτ144 rfl))
        have q164 := kt_0
        have q165 := kt_3
        have q166 := kt_0
        refine m_callV (n := 3) (ci := 11) (st := [.int x150, .ref (G.1 23 0)]) C (c_X12_takeNumberE l G τ144 T N (tE T N (tE T N i)) (0) (3) (0) i145 v148 (by omega) (by omega)) (by decide) (by decide) rfl rfl rfl q5_7 q5_4 q5_6 q0_30 q1_7 (by decide +kernel) rfl (by decide) (by decide) rfl (Nat.le_of_ble_eq_true rfl) dX12_takeStone_62 ?_
        rintro _ τ167 ⟨x170, rfl, i168, f169, b171, h173⟩
        have g172 : Fr MS_X12_takeStoneE AS_X12_takeStoneE σ τ167 := Fr.call (f146) f169 (by decide)
        clear h40_4
        have v174 : Pb τ167 := v147.call (fun k => f169.1 23 0 k (by simp) (by decide))
        have v175 : TpM τ167 T N := v148.fr f169 (by decide) (by decide) (by simp) (by decide)
        have u176 : IV (gV τ167 22 0 11) 0 400 := i168.1 22 0 11
        have q177 : (gV τ167 22 0 6).toInt = (gV σ 22 0 6).toInt := congrArg Int32.toInt (show (gV τ167 22 0 6) = (gV σ 22 0 6) from (show gV τ167 22 0 6 = (gV σ 22 0 6) from (f169.1 22 0 (6) (by decide) (by decide)).trans (show gV τ144 22 0 6 = (gV σ 22 0 6) from gV_put eτ144 (show gV τ34 22 0 6 = (gV σ 22 0 6) from (f36.1 22 0 (6) (by decide) (by decide)).trans (show gV τ11 22 0 6 = (gV σ 22 0 6) from (f13.1 22 0 (6) (by decide) (by decide)).trans rfl)))))
        have q178 : (gV τ167 23 0 150).toInt = (gV σ 23 0 150).toInt := congrArg Int32.toInt (show (gV τ167 23 0 150) = (gV σ 23 0 150) from (show gV τ167 23 0 150 = (gV σ 23 0 150) from (f169.1 23 0 (150) (by decide) (by decide)).trans (show gV τ144 23 0 150 = (gV σ 23 0 150) from (gV_putn eτ144 (Or.inr (Or.inr (by omega)))).trans (show gV τ34 23 0 150 = (gV σ 23 0 150) from (f36.1 23 0 (150) (by decide) (by decide)).trans (show gV τ11 23 0 150 = (gV σ 23 0 150) from (f13.1 23 0 (150) (by decide) (by decide)).trans rfl)))))
        have q179 : (gV τ167 23 0 152).toInt = (gV σ 23 0 152).toInt := congrArg Int32.toInt (show (gV τ167 23 0 152) = (gV σ 23 0 152) from (show gV τ167 23 0 152 = (gV σ 23 0 152) from (f169.1 23 0 (152) (by decide) (by decide)).trans (show gV τ144 23 0 152 = (gV σ 23 0 152) from (gV_putn eτ144 (Or.inr (Or.inr (by omega)))).trans (show gV τ34 23 0 152 = (gV σ 23 0 152) from (f36.1 23 0 (152) (by decide) (by decide)).trans (show gV τ11 23 0 152 = (gV σ 23 0 152) from (f13.1 23 0 (152) (by decide) (by decide)).trans rfl)))))
        have q180 : (gV τ167 23 0 188).toInt = (gV σ 23 0 188).toInt := congrArg Int32.toInt (show (gV τ167 23 0 188) = (gV σ 23 0 188) from (show gV τ167 23 0 188 = (gV σ 23 0 188) from (f169.1 23 0 (188) (by decide) (by decide)).trans (show gV τ144 23 0 188 = (gV σ 23 0 188) from (gV_putn eτ144 (Or.inr (Or.inr (by omega)))).trans (show gV τ34 23 0 188 = (gV σ 23 0 188) from (f36.1 23 0 (188) (by decide) (by decide)).trans (show gV τ11 23 0 188 = (gV σ 23 0 188) from (f13.1 23 0 (188) (by decide) (by decide)).trans rfl)))))
        rcases h173 with ⟨h173_0, h173_1, h173_2, h173_3, h173_4⟩ | ⟨h173_0, h173_1, h173_2, h173_3, h173_4, h173_5, h173_6⟩ | ⟨h173_0, h173_1, h173_2, h173_3, h173_4, h173_5, h173_6⟩
        · skip
          have b181 : IV x170 (-1) (-1) := ⟨by omega, by omega⟩
          have b182 : IV (gV τ167 22 0 16) 1 1 := ⟨by omega, by omega⟩
          show MW p l e _ s m args below meth c _ 2 G 0 0 65 [some (.ref (G.1 22 0)), some (.int (gV σ 23 0 188))] [.int x170, .int x150, .ref (G.1 23 0)] τ167
          refine m_goto (tgt := 69) C dX12_takeStone_65 (by decide) ?_
          refine as_23 C b151 (by decide) rfl dX12_takeStone_69 ?_
          refine m_tops (fun τ183 eτ183 => ?_)
          have i184 : Inv τ183 := eτ183 ▸ Inv.putRo i168 (by omega)
          have f185 : Fr MS_X12_takeStoneE AS_X12_takeStoneE σ τ183 := eτ183 ▸ Fr.put (g172) (Or.inr (by decide))
          have v186 : Pb τ183 := v174.put eτ183 (Or.inr (by omega))
          have v187 : TpM τ183 T N := v175.put eτ183 (Or.inl (by decide)) (by decide)
          refine m_aload_n C dX12_takeStone_70 rfl rfl ?_
          refine g_22_0 C q4_116 dX12_takeStone_71 ?_
          refine m_sipush (v := 188) C dX12_takeStone_74 (by decide) ?_
          refine m_dup2 C dX12_takeStone_77 rfl rfl ?_
          refine al_23 C kc_188 (by decide) kn_188 dX12_takeStone_78 ?_
          refine m_eqs (w := (gV σ 23 0 188)) (show gV τ183 23 0 188 = (gV σ 23 0 188) from (gV_putn eτ183 (Or.inr (Or.inr (by omega)))).trans (show gV τ167 23 0 188 = (gV σ 23 0 188) from (f169.1 23 0 (188) (by decide) (by decide)).trans (show gV τ144 23 0 188 = (gV σ 23 0 188) from (gV_putn eτ144 (Or.inr (Or.inr (by omega)))).trans (show gV τ34 23 0 188 = (gV σ 23 0 188) from (f36.1 23 0 (188) (by decide) (by decide)).trans (show gV τ11 23 0 188 = (gV σ 23 0 188) from (f13.1 23 0 (188) (by decide) (by decide)).trans rfl))))) ?_
          refine m_iconst (v := 1) C dX12_takeStone_79 (by decide) ?_
          refine m_iadd C dX12_takeStone_80 ?_
          refine m_topi (fun x188 ex188 => ?_)
          have tx188 : x188.toInt = (gV σ 23 0 188).toInt + 1 := by rw [ex188, ti_addv b10 kc_1 (by decide), kt_1]
          have b189 : IV x188 1 4 := by rw [ex188]; exact iv_add b10 kc_1 (by decide)
          refine as_23 C kc_188 (by decide) kn_188 dX12_takeStone_81 ?_
          refine m_tops (fun τ190 eτ190 => ?_)
          have i191 : Inv τ190 := eτ190 ▸ Inv.putR i184 (by decide) (iv_wk b189 (by decide))
          have f192 : Fr MS_X12_takeStoneE AS_X12_takeStoneE σ τ190 := eτ190 ▸ Fr.put (f185) (Or.inr (by decide))
          have v193 : Pb τ190 := v186.put eτ190 (Or.inr (by omega))
          have v194 : TpM τ190 T N := v187.put eτ190 (Or.inl (by decide)) (by decide)
          refine m_aload_n C dX12_takeStone_82 rfl rfl ?_
          have q195 : (gV τ190 22 0 6).toInt = (gV σ 22 0 6).toInt := congrArg Int32.toInt (show (gV τ190 22 0 6) = (gV σ 22 0 6) from (show gV τ190 22 0 6 = (gV σ 22 0 6) from gV_put eτ190 (show gV τ183 22 0 6 = (gV σ 22 0 6) from gV_put eτ183 (show gV τ167 22 0 6 = (gV σ 22 0 6) from (f169.1 22 0 (6) (by decide) (by decide)).trans (show gV τ144 22 0 6 = (gV σ 22 0 6) from gV_put eτ144 (show gV τ34 22 0 6 = (gV σ 22 0 6) from (f36.1 22 0 (6) (by decide) (by decide)).trans (show gV τ11 22 0 6 = (gV σ 22 0 6) from (f13.1 22 0 (6) (by decide) (by decide)).trans rfl)))))))
          have q196 : (gV τ190 23 0 150).toInt = (gV σ 23 0 150).toInt := congrArg Int32.toInt (show (gV τ190 23 0 150) = (gV σ 23 0 150) from (show gV τ190 23 0 150 = (gV σ 23 0 150) from gV_put eτ190 (show gV τ183 23 0 150 = (gV σ 23 0 150) from (gV_putn eτ183 (Or.inr (Or.inr (by omega)))).trans (show gV τ167 23 0 150 = (gV σ 23 0 150) from (f169.1 23 0 (150) (by decide) (by decide)).trans (show gV τ144 23 0 150 = (gV σ 23 0 150) from (gV_putn eτ144 (Or.inr (Or.inr (by omega)))).trans (show gV τ34 23 0 150 = (gV σ 23 0 150) from (f36.1 23 0 (150) (by decide) (by decide)).trans (show gV τ11 23 0 150 = (gV σ 23 0 150) from (f13.1 23 0 (150) (by decide) (by decide)).trans rfl)))))))
          have q197 : (gV τ190 23 0 152).toInt = (gV σ 23 0 152).toInt := congrArg Int32.toInt (show (gV τ190 23 0 152) = (gV σ 23 0 152) from (show gV τ190 23 0 152 = (gV σ 23 0 152) from gV_put eτ190 (show gV τ183 23 0 152 = (gV σ 23 0 152) from (gV_putn eτ183 (Or.inr (Or.inr (by omega)))).trans (show gV τ167 23 0 152 = (gV σ 23 0 152) from (f169.1 23 0 (152) (by decide) (by decide)).trans (show gV τ144 23 0 152 = (gV σ 23 0 152) from (gV_putn eτ144 (Or.inr (Or.inr (by omega)))).trans (show gV τ34 23 0 152 = (gV σ 23 0 152) from (f36.1 23 0 (152) (by decide) (by decide)).trans (show gV τ11 23 0 152 = (gV σ 23 0 152) from (f13.1 23 0 (152) (by decide) (by decide)).trans rfl)))))))
          have q198 : (gV τ190 22 0 11).toInt = (gV τ167 22 0 11).toInt := congrArg Int32.toInt (show (gV τ190 22 0 11) = (gV τ167 22 0 11) from (show gV τ190 22 0 11 = (gV τ167 22 0 11) from gV_put eτ190 (show gV τ183 22 0 11 = (gV τ167 22 0 11) from gV_put eτ183 rfl)))
          have q199 : (gV τ190 22 0 12).toInt = (gV τ167 22 0 12).toInt := congrArg Int32.toInt (show (gV τ190 22 0 12) = (gV τ167 22 0 12) from (show gV τ190 22 0 12 = (gV τ167 22 0 12) from gV_put eτ190 (show gV τ183 22 0 12 = (gV τ167 22 0 12) from gV_put eτ183 rfl)))
          have q200 : (gV τ190 22 0 13).toInt = (gV τ167 22 0 13).toInt := congrArg Int32.toInt (show (gV τ190 22 0 13) = (gV τ167 22 0 13) from (show gV τ190 22 0 13 = (gV τ167 22 0 13) from gV_put eτ190 (show gV τ183 22 0 13 = (gV τ167 22 0 13) from gV_put eτ183 rfl)))
          have q201 : (gV τ190 22 0 15).toInt = (gV τ167 22 0 15).toInt := congrArg Int32.toInt (show (gV τ190 22 0 15) = (gV τ167 22 0 15) from (show gV τ190 22 0 15 = (gV τ167 22 0 15) from gV_put eτ190 (show gV τ183 22 0 15 = (gV τ167 22 0 15) from gV_put eτ183 rfl)))
          have q202 : (gV τ190 22 0 16).toInt = (gV τ167 22 0 16).toInt := congrArg Int32.toInt (show (gV τ190 22 0 16) = (gV τ167 22 0 16) from (show gV τ190 22 0 16 = (gV τ167 22 0 16) from gV_put eτ190 (show gV τ183 22 0 16 = (gV τ167 22 0 16) from gV_put eτ183 rfl)))
          have q203 : (gV τ190 23 0 188).toInt = x188.toInt := congrArg Int32.toInt (show (gV τ190 23 0 188) = x188 from (show gV τ190 23 0 188 = x188 from gV_put eτ190 (gV_self _ _ _ _ _)))
          refine m_callV (n := 0) (ci := 11) (st := []) C (c_X12_takeSignE l G τ190 T N (tE T N (tE T N (tE T N i)))  i191 v194 (by omega) (by omega)) (by decide) (by decide) rfl rfl rfl q5_15 q5_12 q5_14 q0_32 q1_7 (by decide +kernel) rfl (by decide) (by decide) rfl (Nat.le_of_ble_eq_true rfl) dX12_takeStone_83 ?_
          rintro _ τ204 ⟨rfl, i205, f206, h210⟩
          have g209 : Fr MS_X12_takeStoneE AS_X12_takeStoneE σ τ204 := Fr.call (f192) f206 (by decide)
          have v211 : Pb τ204 := v193.call (fun k => f206.1 23 0 k (by simp) (by decide))
          have v212 : TpM τ204 T N := v194.fr f206 (by decide) (by decide) (by simp) (by decide)
          have u213 : IV (gV τ204 22 0 11) 0 400 := i205.1 22 0 11
          have q214 : (gV τ204 22 0 6).toInt = (gV σ 22 0 6).toInt := congrArg Int32.toInt (show (gV τ204 22 0 6) = (gV σ 22 0 6) from (show gV τ204 22 0 6 = (gV σ 22 0 6) from (f206.1 22 0 (6) (by decide) (by decide)).trans (show gV τ190 22 0 6 = (gV σ 22 0 6) from gV_put eτ190 (show gV τ183 22 0 6 = (gV σ 22 0 6) from gV_put eτ183 (show gV τ167 22 0 6 = (gV σ 22 0 6) from (f169.1 22 0 (6) (by decide) (by decide)).trans (show gV τ144 22 0 6 = (gV σ 22 0 6) from gV_put eτ144 (show gV τ34 22 0 6 = (gV σ 22 0 6) from (f36.1 22 0 (6) (by decide) (by decide)).trans (show gV τ11 22 0 6 = (gV σ 22 0 6) from (f13.1 22 0 (6) (by decide) (by decide)).trans rfl))))))))
          have q215 : (gV τ204 23 0 150).toInt = (gV σ 23 0 150).toInt := congrArg Int32.toInt (show (gV τ204 23 0 150) = (gV σ 23 0 150) from (show gV τ204 23 0 150 = (gV σ 23 0 150) from (f206.1 23 0 (150) (by decide) (by decide)).trans (show gV τ190 23 0 150 = (gV σ 23 0 150) from gV_put eτ190 (show gV τ183 23 0 150 = (gV σ 23 0 150) from (gV_putn eτ183 (Or.inr (Or.inr (by omega)))).trans (show gV τ167 23 0 150 = (gV σ 23 0 150) from (f169.1 23 0 (150) (by decide) (by decide)).trans (show gV τ144 23 0 150 = (gV σ 23 0 150) from (gV_putn eτ144 (Or.inr (Or.inr (by omega)))).trans (show gV τ34 23 0 150 = (gV σ 23 0 150) from (f36.1 23 0 (150) (by decide) (by decide)).trans (show gV τ11 23 0 150 = (gV σ 23 0 150) from (f13.1 23 0 (150) (by decide) (by decide)).trans rfl))))))))
          have q216 : (gV τ204 23 0 152).toInt = (gV σ 23 0 152).toInt := congrArg Int32.toInt (show (gV τ204 23 0 152) = (gV σ 23 0 152) from (show gV τ204 23 0 152 = (gV σ 23 0 152) from (f206.1 23 0 (152) (by decide) (by decide)).trans (show gV τ190 23 0 152 = (gV σ 23 0 152) from gV_put eτ190 (show gV τ183 23 0 152 = (gV σ 23 0 152) from (gV_putn eτ183 (Or.inr (Or.inr (by omega)))).trans (show gV τ167 23 0 152 = (gV σ 23 0 152) from (f169.1 23 0 (152) (by decide) (by decide)).trans (show gV τ144 23 0 152 = (gV σ 23 0 152) from (gV_putn eτ144 (Or.inr (Or.inr (by omega)))).trans (show gV τ34 23 0 152 = (gV σ 23 0 152) from (f36.1 23 0 (152) (by decide) (by decide)).trans (show gV τ11 23 0 152 = (gV σ 23 0 152) from (f13.1 23 0 (152) (by decide) (by decide)).trans rfl))))))))
          have q217 : (gV τ204 23 0 188).toInt = x188.toInt := congrArg Int32.toInt (show (gV τ204 23 0 188) = x188 from (show gV τ204 23 0 188 = x188 from (f206.1 23 0 (188) (by decide) (by decide)).trans (show gV τ190 23 0 188 = x188 from gV_put eτ190 (gV_self _ _ _ _ _))))
          rcases h210 with ⟨h210_0, h210_1, h210_2, h210_3⟩ | ⟨h210_0, h210_1, h210_2, h210_3, h210_4⟩ | ⟨h210_0, h210_1, h210_2, h210_3, h210_4, h210_5⟩
          · skip
            show MW p l e _ s m args below meth c _ 2 G 0 0 86 [some (.ref (G.1 22 0)), some (.int (gV σ 23 0 188))] [] τ204
            exact m_vret C hr hlk (by decide) (by decide) dX12_takeStone_86 ⟨rfl, i205, g209, (by have qd := sto_3 T N cc i (by omega) (by omega) (by omega) (by omega); exact Or.inl ⟨by omega, by omega, by omega, by omega, by omega, by omega, v211⟩)⟩
          · skip
            exfalso; omega
          · skip
            exfalso; omega
        · skip
          have b218 : IV x170 (-1) (-1) := ⟨by omega, by omega⟩
          have b219 : IV (gV τ167 22 0 16) 2 2 := ⟨by omega, by omega⟩
          show MW p l e _ s m args below meth c _ 2 G 0 0 65 [some (.ref (G.1 22 0)), some (.int (gV σ 23 0 188))] [.int x170, .int x150, .ref (G.1 23 0)] τ167
          refine m_goto (tgt := 69) C dX12_takeStone_65 (by decide) ?_
          refine as_23 C b151 (by decide) rfl dX12_takeStone_69 ?_
          refine m_tops (fun τ220 eτ220 => ?_)
          have i221 : Inv τ220 := eτ220 ▸ Inv.putRo i168 (by omega)
          have f222 : Fr MS_X12_takeStoneE AS_X12_takeStoneE σ τ220 := eτ220 ▸ Fr.put (g172) (Or.inr (by decide))
          have v223 : Pb τ220 := v174.put eτ220 (Or.inr (by omega))
          have v224 : TpM τ220 T N := v175.put eτ220 (Or.inl (by decide)) (by decide)
          refine m_aload_n C dX12_takeStone_70 rfl rfl ?_
          refine g_22_0 C q4_116 dX12_takeStone_71 ?_
          refine m_sipush (v := 188) C dX12_takeStone_74 (by decide) ?_
          refine m_dup2 C dX12_takeStone_77 rfl rfl ?_
          refine al_23 C kc_188 (by decide) kn_188 dX12_takeStone_78 ?_
          refine m_eqs (w := (gV σ 23 0 188)) (show gV τ220 23 0 188 = (gV σ 23 0 188) from (gV_putn eτ220 (Or.inr (Or.inr (by omega)))).trans (show gV τ167 23 0 188 = (gV σ 23 0 188) from (f169.1 23 0 (188) (by decide) (by decide)).trans (show gV τ144 23 0 188 = (gV σ 23 0 188) from (gV_putn eτ144 (Or.inr (Or.inr (by omega)))).trans (show gV τ34 23 0 188 = (gV σ 23 0 188) from (f36.1 23 0 (188) (by decide) (by decide)).trans (show gV τ11 23 0 188 = (gV σ 23 0 188) from (f13.1 23 0 (188) (by decide) (by decide)).trans rfl))))) ?_
          refine m_iconst (v := 1) C dX12_takeStone_79 (by decide) ?_
          refine m_iadd C dX12_takeStone_80 ?_
          refine m_topi (fun x225 ex225 => ?_)
          have tx225 : x225.toInt = (gV σ 23 0 188).toInt + 1 := by rw [ex225, ti_addv b10 kc_1 (by decide), kt_1]
          have b226 : IV x225 1 4 := by rw [ex225]; exact iv_add b10 kc_1 (by decide)
          refine as_23 C kc_188 (by decide) kn_188 dX12_takeStone_81 ?_
          refine m_tops (fun τ227 eτ227 => ?_)
          have i228 : Inv τ227 := eτ227 ▸ Inv.putR i221 (by decide) (iv_wk b226 (by decide))
          have f229 : Fr MS_X12_takeStoneE AS_X12_takeStoneE σ τ227 := eτ227 ▸ Fr.put (f222) (Or.inr (by decide))
          have v230 : Pb τ227 := v223.put eτ227 (Or.inr (by omega))
          have v231 : TpM τ227 T N := v224.put eτ227 (Or.inl (by decide)) (by decide)
          refine m_aload_n C dX12_takeStone_82 rfl rfl ?_
          have q232 : (gV τ227 22 0 6).toInt = (gV σ 22 0 6).toInt := congrArg Int32.toInt (show (gV τ227 22 0 6) = (gV σ 22 0 6) from (show gV τ227 22 0 6 = (gV σ 22 0 6) from gV_put eτ227 (show gV τ220 22 0 6 = (gV σ 22 0 6) from gV_put eτ220 (show gV τ167 22 0 6 = (gV σ 22 0 6) from (f169.1 22 0 (6) (by decide) (by decide)).trans (show gV τ144 22 0 6 = (gV σ 22 0 6) from gV_put eτ144 (show gV τ34 22 0 6 = (gV σ 22 0 6) from (f36.1 22 0 (6) (by decide) (by decide)).trans (show gV τ11 22 0 6 = (gV σ 22 0 6) from (f13.1 22 0 (6) (by decide) (by decide)).trans rfl)))))))
          have q233 : (gV τ227 23 0 150).toInt = (gV σ 23 0 150).toInt := congrArg Int32.toInt (show (gV τ227 23 0 150) = (gV σ 23 0 150) from (show gV τ227 23 0 150 = (gV σ 23 0 150) from gV_put eτ227 (show gV τ220 23 0 150 = (gV σ 23 0 150) from (gV_putn eτ220 (Or.inr (Or.inr (by omega)))).trans (show gV τ167 23 0 150 = (gV σ 23 0 150) from (f169.1 23 0 (150) (by decide) (by decide)).trans (show gV τ144 23 0 150 = (gV σ 23 0 150) from (gV_putn eτ144 (Or.inr (Or.inr (by omega)))).trans (show gV τ34 23 0 150 = (gV σ 23 0 150) from (f36.1 23 0 (150) (by decide) (by decide)).trans (show gV τ11 23 0 150 = (gV σ 23 0 150) from (f13.1 23 0 (150) (by decide) (by decide)).trans rfl)))))))
          have q234 : (gV τ227 23 0 152).toInt = (gV σ 23 0 152).toInt := congrArg Int32.toInt (show (gV τ227 23 0 152) = (gV σ 23 0 152) from (show gV τ227 23 0 152 = (gV σ 23 0 152) from gV_put eτ227 (show gV τ220 23 0 152 = (gV σ 23 0 152) from (gV_putn eτ220 (Or.inr (Or.inr (by omega)))).trans (show gV τ167 23 0 152 = (gV σ 23 0 152) from (f169.1 23 0 (152) (by decide) (by decide)).trans (show gV τ144 23 0 152 = (gV σ 23 0 152) from (gV_putn eτ144 (Or.inr (Or.inr (by omega)))).trans (show gV τ34 23 0 152 = (gV σ 23 0 152) from (f36.1 23 0 (152) (by decide) (by decide)).trans (show gV τ11 23 0 152 = (gV σ 23 0 152) from (f13.1 23 0 (152) (by decide) (by decide)).trans rfl)))))))
          have q235 : (gV τ227 22 0 11).toInt = (gV τ167 22 0 11).toInt := congrArg Int32.toInt (show (gV τ227 22 0 11) = (gV τ167 22 0 11) from (show gV τ227 22 0 11 = (gV τ167 22 0 11) from gV_put eτ227 (show gV τ220 22 0 11 = (gV τ167 22 0 11) from gV_put eτ220 rfl)))
          have q236 : (gV τ227 22 0 12).toInt = (gV τ167 22 0 12).toInt := congrArg Int32.toInt (show (gV τ227 22 0 12) = (gV τ167 22 0 12) from (show gV τ227 22 0 12 = (gV τ167 22 0 12) from gV_put eτ227 (show gV τ220 22 0 12 = (gV τ167 22 0 12) from gV_put eτ220 rfl)))
          have q237 : (gV τ227 22 0 13).toInt = (gV τ167 22 0 13).toInt := congrArg Int32.toInt (show (gV τ227 22 0 13) = (gV τ167 22 0 13) from (show gV τ227 22 0 13 = (gV τ167 22 0 13) from gV_put eτ227 (show gV τ220 22 0 13 = (gV τ167 22 0 13) from gV_put eτ220 rfl)))
          have q238 : (gV τ227 22 0 15).toInt = (gV τ167 22 0 15).toInt := congrArg Int32.toInt (show (gV τ227 22 0 15) = (gV τ167 22 0 15) from (show gV τ227 22 0 15 = (gV τ167 22 0 15) from gV_put eτ227 (show gV τ220 22 0 15 = (gV τ167 22 0 15) from gV_put eτ220 rfl)))
          have q239 : (gV τ227 22 0 16).toInt = (gV τ167 22 0 16).toInt := congrArg Int32.toInt (show (gV τ227 22 0 16) = (gV τ167 22 0 16) from (show gV τ227 22 0 16 = (gV τ167 22 0 16) from gV_put eτ227 (show gV τ220 22 0 16 = (gV τ167 22 0 16) from gV_put eτ220 rfl)))
          have q240 : (gV τ227 23 0 188).toInt = x225.toInt := congrArg Int32.toInt (show (gV τ227 23 0 188) = x225 from (show gV τ227 23 0 188 = x225 from gV_put eτ227 (gV_self _ _ _ _ _)))
          refine m_callV (n := 0) (ci := 11) (st := []) C (c_X12_takeSignE l G τ227 T N (tE T N (tE T N (tE T N i)))  i228 v231 (by omega) (by omega)) (by decide) (by decide) rfl rfl rfl q5_15 q5_12 q5_14 q0_32 q1_7 (by decide +kernel) rfl (by decide) (by decide) rfl (Nat.le_of_ble_eq_true rfl) dX12_takeStone_83 ?_
          rintro _ τ241 ⟨rfl, i242, f243, h247⟩
          have g246 : Fr MS_X12_takeStoneE AS_X12_takeStoneE σ τ241 := Fr.call (f229) f243 (by decide)
          have v248 : Pb τ241 := v230.call (fun k => f243.1 23 0 k (by simp) (by decide))
          have v249 : TpM τ241 T N := v231.fr f243 (by decide) (by decide) (by simp) (by decide)
          have u250 : IV (gV τ241 22 0 11) 0 400 := i242.1 22 0 11
          have q251 : (gV τ241 22 0 6).toInt = (gV σ 22 0 6).toInt := congrArg Int32.toInt (show (gV τ241 22 0 6) = (gV σ 22 0 6) from (show gV τ241 22 0 6 = (gV σ 22 0 6) from (f243.1 22 0 (6) (by decide) (by decide)).trans (show gV τ227 22 0 6 = (gV σ 22 0 6) from gV_put eτ227 (show gV τ220 22 0 6 = (gV σ 22 0 6) from gV_put eτ220 (show gV τ167 22 0 6 = (gV σ 22 0 6) from (f169.1 22 0 (6) (by decide) (by decide)).trans (show gV τ144 22 0 6 = (gV σ 22 0 6) from gV_put eτ144 (show gV τ34 22 0 6 = (gV σ 22 0 6) from (f36.1 22 0 (6) (by decide) (by decide)).trans (show gV τ11 22 0 6 = (gV σ 22 0 6) from (f13.1 22 0 (6) (by decide) (by decide)).trans rfl))))))))
          have q252 : (gV τ241 23 0 150).toInt = (gV σ 23 0 150).toInt := congrArg Int32.toInt (show (gV τ241 23 0 150) = (gV σ 23 0 150) from (show gV τ241 23 0 150 = (gV σ 23 0 150) from (f243.1 23 0 (150) (by decide) (by decide)).trans (show gV τ227 23 0 150 = (gV σ 23 0 150) from gV_put eτ227 (show gV τ220 23 0 150 = (gV σ 23 0 150) from (gV_putn eτ220 (Or.inr (Or.inr (by omega)))).trans (show gV τ167 23 0 150 = (gV σ 23 0 150) from (f169.1 23 0 (150) (by decide) (by decide)).trans (show gV τ144 23 0 150 = (gV σ 23 0 150) from (gV_putn eτ144 (Or.inr (Or.inr (by omega)))).trans (show gV τ34 23 0 150 = (gV σ 23 0 150) from (f36.1 23 0 (150) (by decide) (by decide)).trans (show gV τ11 23 0 150 = (gV σ 23 0 150) from (f13.1 23 0 (150) (by decide) (by decide)).trans rfl))))))))
          have q253 : (gV τ241 23 0 152).toInt = (gV σ 23 0 152).toInt := congrArg Int32.toInt (show (gV τ241 23 0 152) = (gV σ 23 0 152) from (show gV τ241 23 0 152 = (gV σ 23 0 152) from (f243.1 23 0 (152) (by decide) (by decide)).trans (show gV τ227 23 0 152 = (gV σ 23 0 152) from gV_put eτ227 (show gV τ220 23 0 152 = (gV σ 23 0 152) from (gV_putn eτ220 (Or.inr (Or.inr (by omega)))).trans (show gV τ167 23 0 152 = (gV σ 23 0 152) from (f169.1 23 0 (152) (by decide) (by decide)).trans (show gV τ144 23 0 152 = (gV σ 23 0 152) from (gV_putn eτ144 (Or.inr (Or.inr (by omega)))).trans (show gV τ34 23 0 152 = (gV σ 23 0 152) from (f36.1 23 0 (152) (by decide) (by decide)).trans (show gV τ11 23 0 152 = (gV σ 23 0 152) from (f13.1 23 0 (152) (by decide) (by decide)).trans rfl))))))))
          have q254 : (gV τ241 23 0 188).toInt = x225.toInt := congrArg Int32.toInt (show (gV τ241 23 0 188) = x225 from (show gV τ241 23 0 188 = x225 from (f243.1 23 0 (188) (by decide) (by decide)).trans (show gV τ227 23 0 188 = x225 from gV_put eτ227 (gV_self _ _ _ _ _))))
          rcases h247 with ⟨h247_0, h247_1, h247_2, h247_3⟩ | ⟨h247_0, h247_1, h247_2, h247_3, h247_4⟩ | ⟨h247_0, h247_1, h247_2, h247_3, h247_4, h247_5⟩
          · skip
            show MW p l e _ s m args below meth c _ 2 G 0 0 86 [some (.ref (G.1 22 0)), some (.int (gV σ 23 0 188))] [] τ241
            exact m_vret C hr hlk (by decide) (by decide) dX12_takeStone_86 ⟨rfl, i242, g246, (by have qd := sto_4 T N cc i (by omega) (by omega) (by omega) (by omega) (by omega); exact Or.inl ⟨by omega, by omega, by omega, by omega, by omega, by omega, v248⟩)⟩
          · skip
            exfalso; omega
          · skip
            exfalso; omega
        · skip
          have q255 : 0 ≤ tV T (tE T N (tE T N i)) ∧ tV T (tE T N (tE T N i)) ≤ 3 := by omega
          clear h173_1
          have b256 : IV (gV τ167 22 0 16) 0 0 := ⟨by omega, by omega⟩
          show MW p l e _ s m args below meth c _ 2 G 0 0 65 [some (.ref (G.1 22 0)), some (.int (gV σ 23 0 188))] [.int x170, .int x150, .ref (G.1 23 0)] τ167
          refine m_goto (tgt := 69) C dX12_takeStone_65 (by decide) ?_
          refine as_23 C b151 (by decide) rfl dX12_takeStone_69 ?_
          refine m_tops (fun τ257 eτ257 => ?_)
          have i258 : Inv τ257 := eτ257 ▸ Inv.putRo i168 (by omega)
          have f259 : Fr MS_X12_takeStoneE AS_X12_takeStoneE σ τ257 := eτ257 ▸ Fr.put (g172) (Or.inr (by decide))
          have v260 : Pb τ257 := v174.put eτ257 (Or.inr (by omega))
          have v261 : TpM τ257 T N := v175.put eτ257 (Or.inl (by decide)) (by decide)
          have v262 : LW T N (tE T N (tE T N (tE T N i))) τ257.2.2.1 := by rw [eτ257]; exact h173_6
          refine m_aload_n C dX12_takeStone_70 rfl rfl ?_
          refine g_22_0 C q4_116 dX12_takeStone_71 ?_
          refine m_sipush (v := 188) C dX12_takeStone_74 (by decide) ?_
          refine m_dup2 C dX12_takeStone_77 rfl rfl ?_
          refine al_23 C kc_188 (by decide) kn_188 dX12_takeStone_78 ?_
          refine m_eqs (w := (gV σ 23 0 188)) (show gV τ257 23 0 188 = (gV σ 23 0 188) from (gV_putn eτ257 (Or.inr (Or.inr (by omega)))).trans (show gV τ167 23 0 188 = (gV σ 23 0 188) from (f169.1 23 0 (188) (by decide) (by decide)).trans (show gV τ144 23 0 188 = (gV σ 23 0 188) from (gV_putn eτ144 (Or.inr (Or.inr (by omega)))).trans (show gV τ34 23 0 188 = (gV σ 23 0 188) from (f36.1 23 0 (188) (by decide) (by decide)).trans (show gV τ11 23 0 188 = (gV σ 23 0 188) from (f13.1 23 0 (188) (by decide) (by decide)).trans rfl))))) ?_
          refine m_iconst (v := 1) C dX12_takeStone_79 (by decide) ?_
          refine m_iadd C dX12_takeStone_80 ?_
          refine m_topi (fun x263 ex263 => ?_)
          have tx263 : x263.toInt = (gV σ 23 0 188).toInt + 1 := by rw [ex263, ti_addv b10 kc_1 (by decide), kt_1]
          have b264 : IV x263 1 4 := by rw [ex263]; exact iv_add b10 kc_1 (by decide)
          refine as_23 C kc_188 (by decide) kn_188 dX12_takeStone_81 ?_
          refine m_tops (fun τ265 eτ265 => ?_)
          have i266 : Inv τ265 := eτ265 ▸ Inv.putR i258 (by decide) (iv_wk b264 (by decide))
          have f267 : Fr MS_X12_takeStoneE AS_X12_takeStoneE σ τ265 := eτ265 ▸ Fr.put (f259) (Or.inr (by decide))
          have v268 : Pb τ265 := v260.put eτ265 (Or.inr (by omega))
          have v269 : TpM τ265 T N := v261.put eτ265 (Or.inl (by decide)) (by decide)
          have v270 : LW T N (tE T N (tE T N (tE T N i))) τ265.2.2.1 := by rw [eτ265]; exact v262
          refine m_aload_n C dX12_takeStone_82 rfl rfl ?_
          have q271 : (gV τ265 22 0 6).toInt = (gV σ 22 0 6).toInt := congrArg Int32.toInt (show (gV τ265 22 0 6) = (gV σ 22 0 6) from (show gV τ265 22 0 6 = (gV σ 22 0 6) from gV_put eτ265 (show gV τ257 22 0 6 = (gV σ 22 0 6) from gV_put eτ257 (show gV τ167 22 0 6 = (gV σ 22 0 6) from (f169.1 22 0 (6) (by decide) (by decide)).trans (show gV τ144 22 0 6 = (gV σ 22 0 6) from gV_put eτ144 (show gV τ34 22 0 6 = (gV σ 22 0 6) from (f36.1 22 0 (6) (by decide) (by decide)).trans (show gV τ11 22 0 6 = (gV σ 22 0 6) from (f13.1 22 0 (6) (by decide) (by decide)).trans rfl)))))))
          have q272 : (gV τ265 23 0 150).toInt = (gV σ 23 0 150).toInt := congrArg Int32.toInt (show (gV τ265 23 0 150) = (gV σ 23 0 150) from (show gV τ265 23 0 150 = (gV σ 23 0 150) from gV_put eτ265 (show gV τ257 23 0 150 = (gV σ 23 0 150) from (gV_putn eτ257 (Or.inr (Or.inr (by omega)))).trans (show gV τ167 23 0 150 = (gV σ 23 0 150) from (f169.1 23 0 (150) (by decide) (by decide)).trans (show gV τ144 23 0 150 = (gV σ 23 0 150) from (gV_putn eτ144 (Or.inr (Or.inr (by omega)))).trans (show gV τ34 23 0 150 = (gV σ 23 0 150) from (f36.1 23 0 (150) (by decide) (by decide)).trans (show gV τ11 23 0 150 = (gV σ 23 0 150) from (f13.1 23 0 (150) (by decide) (by decide)).trans rfl)))))))
          have q273 : (gV τ265 23 0 152).toInt = (gV σ 23 0 152).toInt := congrArg Int32.toInt (show (gV τ265 23 0 152) = (gV σ 23 0 152) from (show gV τ265 23 0 152 = (gV σ 23 0 152) from gV_put eτ265 (show gV τ257 23 0 152 = (gV σ 23 0 152) from (gV_putn eτ257 (Or.inr (Or.inr (by omega)))).trans (show gV τ167 23 0 152 = (gV σ 23 0 152) from (f169.1 23 0 (152) (by decide) (by decide)).trans (show gV τ144 23 0 152 = (gV σ 23 0 152) from (gV_putn eτ144 (Or.inr (Or.inr (by omega)))).trans (show gV τ34 23 0 152 = (gV σ 23 0 152) from (f36.1 23 0 (152) (by decide) (by decide)).trans (show gV τ11 23 0 152 = (gV σ 23 0 152) from (f13.1 23 0 (152) (by decide) (by decide)).trans rfl)))))))
          have q274 : (gV τ265 22 0 11).toInt = (gV τ167 22 0 11).toInt := congrArg Int32.toInt (show (gV τ265 22 0 11) = (gV τ167 22 0 11) from (show gV τ265 22 0 11 = (gV τ167 22 0 11) from gV_put eτ265 (show gV τ257 22 0 11 = (gV τ167 22 0 11) from gV_put eτ257 rfl)))
          have q275 : (gV τ265 22 0 12).toInt = (gV τ167 22 0 12).toInt := congrArg Int32.toInt (show (gV τ265 22 0 12) = (gV τ167 22 0 12) from (show gV τ265 22 0 12 = (gV τ167 22 0 12) from gV_put eτ265 (show gV τ257 22 0 12 = (gV τ167 22 0 12) from gV_put eτ257 rfl)))
          have q276 : (gV τ265 22 0 13).toInt = (gV τ167 22 0 13).toInt := congrArg Int32.toInt (show (gV τ265 22 0 13) = (gV τ167 22 0 13) from (show gV τ265 22 0 13 = (gV τ167 22 0 13) from gV_put eτ265 (show gV τ257 22 0 13 = (gV τ167 22 0 13) from gV_put eτ257 rfl)))
          have q277 : (gV τ265 22 0 15).toInt = (gV τ167 22 0 15).toInt := congrArg Int32.toInt (show (gV τ265 22 0 15) = (gV τ167 22 0 15) from (show gV τ265 22 0 15 = (gV τ167 22 0 15) from gV_put eτ265 (show gV τ257 22 0 15 = (gV τ167 22 0 15) from gV_put eτ257 rfl)))
          have q278 : (gV τ265 22 0 16).toInt = (gV τ167 22 0 16).toInt := congrArg Int32.toInt (show (gV τ265 22 0 16) = (gV τ167 22 0 16) from (show gV τ265 22 0 16 = (gV τ167 22 0 16) from gV_put eτ265 (show gV τ257 22 0 16 = (gV τ167 22 0 16) from gV_put eτ257 rfl)))
          have q279 : (gV τ265 23 0 188).toInt = x263.toInt := congrArg Int32.toInt (show (gV τ265 23 0 188) = x263 from (show gV τ265 23 0 188 = x263 from gV_put eτ265 (gV_self _ _ _ _ _)))
          refine m_callV (n := 0) (ci := 11) (st := []) C (c_X12_takeSignE l G τ265 T N (tE T N (tE T N (tE T N i)))  i266 v269 (by omega) (by omega)) (by decide) (by decide) rfl rfl rfl q5_15 q5_12 q5_14 q0_32 q1_7 (by decide +kernel) rfl (by decide) (by decide) rfl (Nat.le_of_ble_eq_true rfl) dX12_takeStone_83 ?_
          rintro _ τ280 ⟨rfl, i281, f282, h286⟩
          have g285 : Fr MS_X12_takeStoneE AS_X12_takeStoneE σ τ280 := Fr.call (f267) f282 (by decide)
          clear h173_4
          have v287 : Pb τ280 := v268.call (fun k => f282.1 23 0 k (by simp) (by decide))
          have v288 : TpM τ280 T N := v269.fr f282 (by decide) (by decide) (by simp) (by decide)
          have u289 : IV (gV τ280 22 0 11) 0 400 := i281.1 22 0 11
          have q290 : (gV τ280 22 0 6).toInt = (gV σ 22 0 6).toInt := congrArg Int32.toInt (show (gV τ280 22 0 6) = (gV σ 22 0 6) from (show gV τ280 22 0 6 = (gV σ 22 0 6) from (f282.1 22 0 (6) (by decide) (by decide)).trans (show gV τ265 22 0 6 = (gV σ 22 0 6) from gV_put eτ265 (show gV τ257 22 0 6 = (gV σ 22 0 6) from gV_put eτ257 (show gV τ167 22 0 6 = (gV σ 22 0 6) from (f169.1 22 0 (6) (by decide) (by decide)).trans (show gV τ144 22 0 6 = (gV σ 22 0 6) from gV_put eτ144 (show gV τ34 22 0 6 = (gV σ 22 0 6) from (f36.1 22 0 (6) (by decide) (by decide)).trans (show gV τ11 22 0 6 = (gV σ 22 0 6) from (f13.1 22 0 (6) (by decide) (by decide)).trans rfl))))))))
          have q291 : (gV τ280 23 0 150).toInt = (gV σ 23 0 150).toInt := congrArg Int32.toInt (show (gV τ280 23 0 150) = (gV σ 23 0 150) from (show gV τ280 23 0 150 = (gV σ 23 0 150) from (f282.1 23 0 (150) (by decide) (by decide)).trans (show gV τ265 23 0 150 = (gV σ 23 0 150) from gV_put eτ265 (show gV τ257 23 0 150 = (gV σ 23 0 150) from (gV_putn eτ257 (Or.inr (Or.inr (by omega)))).trans (show gV τ167 23 0 150 = (gV σ 23 0 150) from (f169.1 23 0 (150) (by decide) (by decide)).trans (show gV τ144 23 0 150 = (gV σ 23 0 150) from (gV_putn eτ144 (Or.inr (Or.inr (by omega)))).trans (show gV τ34 23 0 150 = (gV σ 23 0 150) from (f36.1 23 0 (150) (by decide) (by decide)).trans (show gV τ11 23 0 150 = (gV σ 23 0 150) from (f13.1 23 0 (150) (by decide) (by decide)).trans rfl))))))))
          have q292 : (gV τ280 23 0 152).toInt = (gV σ 23 0 152).toInt := congrArg Int32.toInt (show (gV τ280 23 0 152) = (gV σ 23 0 152) from (show gV τ280 23 0 152 = (gV σ 23 0 152) from (f282.1 23 0 (152) (by decide) (by decide)).trans (show gV τ265 23 0 152 = (gV σ 23 0 152) from gV_put eτ265 (show gV τ257 23 0 152 = (gV σ 23 0 152) from (gV_putn eτ257 (Or.inr (Or.inr (by omega)))).trans (show gV τ167 23 0 152 = (gV σ 23 0 152) from (f169.1 23 0 (152) (by decide) (by decide)).trans (show gV τ144 23 0 152 = (gV σ 23 0 152) from (gV_putn eτ144 (Or.inr (Or.inr (by omega)))).trans (show gV τ34 23 0 152 = (gV σ 23 0 152) from (f36.1 23 0 (152) (by decide) (by decide)).trans (show gV τ11 23 0 152 = (gV σ 23 0 152) from (f13.1 23 0 (152) (by decide) (by decide)).trans rfl))))))))
          have q293 : (gV τ280 23 0 188).toInt = x263.toInt := congrArg Int32.toInt (show (gV τ280 23 0 188) = x263 from (show gV τ280 23 0 188 = x263 from (f282.1 23 0 (188) (by decide) (by decide)).trans (show gV τ265 23 0 188 = x263 from gV_put eτ265 (gV_self _ _ _ _ _))))
          rcases h286 with ⟨h286_0, h286_1, h286_2, h286_3⟩ | ⟨h286_0, h286_1, h286_2, h286_3, h286_4⟩ | ⟨h286_0, h286_1, h286_2, h286_3, h286_4, h286_5⟩
          · skip
            exfalso; omega
          · skip
            have b294 : IV (gV τ280 22 0 16) 1 1 := ⟨by omega, by omega⟩
            show MW p l e _ s m args below meth c _ 2 G 0 0 86 [some (.ref (G.1 22 0)), some (.int (gV σ 23 0 188))] [] τ280
            exact m_vret C hr hlk (by decide) (by decide) dX12_takeStone_86 ⟨rfl, i281, g285, (by have qd := sto_5 T N cc i (by omega) (by omega) (by omega) (by omega) (by omega) (by omega); exact Or.inl ⟨by omega, by omega, by omega, by omega, by omega, by omega, v287⟩)⟩
          · skip
            have b295 : IV (gV τ280 22 0 16) 0 0 := ⟨by omega, by omega⟩
            show MW p l e _ s m args below meth c _ 2 G 0 0 86 [some (.ref (G.1 22 0)), some (.int (gV σ 23 0 188))] [] τ280
            exact m_vret C hr hlk (by decide) (by decide) dX12_takeStone_86 ⟨rfl, i281, g285, (by have qd := sto_ok T N cc i (by omega) (by omega) (by omega) (by omega) (by omega) (by omega); exact Or.inr ⟨by omega, by omega, by omega, by omega, by omega, by omega, v287, h286_5⟩)⟩
  · have f296 : (gV σ 23 0 188).toInt = 4 := by
      have q : _ := c8
      simp only [ti_nle, ti_nlt, ti_le, ti_lt, ti_eq, ti_ne, Classical.not_not, kt_4] at q
      omega
    have b297 : IV (gV σ 23 0 188) 4 4 := ⟨by have q1 := u4; have q2 := kc_4; omega, by have q1 := u4; have q2 := kc_4; omega⟩
    refine m_aload_n C dX12_takeStone_14 rfl rfl ?_
    refine m_iconst (v := 3) C dX12_takeStone_15 (by decide) ?_
    refine p_22_16 C q4_132 dX12_takeStone_16 ?_
    refine m_tops (fun τ298 eτ298 => ?_)
    have i299 : Inv τ298 := eτ298 ▸ Inv.putF hI (by decide) rfl
    have f300 : Fr MS_X12_takeStoneE AS_X12_takeStoneE σ τ298 := eτ298 ▸ Fr.put (Fr.rf) (Or.inl (by decide))
    have v301 : Pb τ298 := hPb.put eτ298 (Or.inl (by decide))
    have v302 : TpM τ298 T N := hT.put eτ298 (Or.inr (by decide)) (by decide)
    have v303 : τ298.2.2.1 = σ.2.2.1 := by rw [eτ298]; rfl
    have q304 : (gV τ298 22 0 11).toInt = (gV σ 22 0 11).toInt := congrArg Int32.toInt (show (gV τ298 22 0 11) = (gV σ 22 0 11) from (show gV τ298 22 0 11 = (gV σ 22 0 11) from gV_put eτ298 rfl))
    have q305 : (gV τ298 22 0 12).toInt = (gV σ 22 0 12).toInt := congrArg Int32.toInt (show (gV τ298 22 0 12) = (gV σ 22 0 12) from (show gV τ298 22 0 12 = (gV σ 22 0 12) from gV_put eτ298 rfl))
    have q306 : (gV τ298 22 0 13).toInt = (gV σ 22 0 13).toInt := congrArg Int32.toInt (show (gV τ298 22 0 13) = (gV σ 22 0 13) from (show gV τ298 22 0 13 = (gV σ 22 0 13) from gV_put eτ298 rfl))
    have q307 : (gV τ298 22 0 15).toInt = (gV σ 22 0 15).toInt := congrArg Int32.toInt (show (gV τ298 22 0 15) = (gV σ 22 0 15) from (show gV τ298 22 0 15 = (gV σ 22 0 15) from gV_put eτ298 rfl))
    have q308 : (gV τ298 22 0 6).toInt = (gV σ 22 0 6).toInt := congrArg Int32.toInt (show (gV τ298 22 0 6) = (gV σ 22 0 6) from (show gV τ298 22 0 6 = (gV σ 22 0 6) from gV_put eτ298 rfl))
    have q309 : (gV τ298 23 0 150).toInt = (gV σ 23 0 150).toInt := congrArg Int32.toInt (show (gV τ298 23 0 150) = (gV σ 23 0 150) from (show gV τ298 23 0 150 = (gV σ 23 0 150) from gV_put eτ298 rfl))
    have q310 : (gV τ298 23 0 152).toInt = (gV σ 23 0 152).toInt := congrArg Int32.toInt (show (gV τ298 23 0 152) = (gV σ 23 0 152) from (show gV τ298 23 0 152 = (gV σ 23 0 152) from gV_put eτ298 rfl))
    have q311 : (gV τ298 23 0 188).toInt = (gV σ 23 0 188).toInt := congrArg Int32.toInt (show (gV τ298 23 0 188) = (gV σ 23 0 188) from (show gV τ298 23 0 188 = (gV σ 23 0 188) from gV_put eτ298 rfl))
    have q312 : (gV τ298 22 0 16).toInt = 3 := (congrArg Int32.toInt (show (gV τ298 22 0 16) = 3 from (show gV τ298 22 0 16 = 3 from gV_put eτ298 (gV_self _ _ _ _ _)))).trans kt_3
    exact m_vret C hr hlk (by decide) (by decide) dX12_takeStone_19 ⟨rfl, i299, f300, (by have qd := sto_0 T N cc i (by omega); exact Or.inl ⟨by omega, by omega, by omega, by omega, by omega, by omega, v301⟩)⟩

abbrev MS_X12_towerT : List (Nat × Nat) := [(22, 6), (22, 7), (22, 9), (22, 11), (22, 12), (22, 13), (22, 15), (22, 16)]
abbrev AS_X12_towerT : List Nat := [23]
set_option maxHeartbeats 4000000 in
set_option maxRecDepth 100000 in
theorem c_X12_towerT (l : Launch) (G : Gt) (σ : Sg) (T : Nat → Int) (N : Nat) (hI : Inv σ) (hT : TpM σ T N) : Mc l G yX12_tower cX12_tower 2 (some .int) 4 92 0 0 [.ref (G.1 22 0)] σ (PI fun r τ => Inv τ ∧ Fr MS_X12_towerT AS_X12_towerT σ τ ∧ IV r (-1000500) 7 ∧ ((r.toInt = -1000100 - outP T N ∧ outF T N ≠ 0 ∧ (gV τ 22 0 7).toInt = outF T N ∧ (gV τ 22 0 6).toInt = 0) ∨ (r.toInt = outN T N ∧ outF T N = 0 ∧ (gV τ 22 0 7).toInt = (gV σ 22 0 7).toInt ∧ (gV τ 22 0 6).toInt = 0))) := by
  refine Mc.of (L0 := [some (.ref (G.1 22 0)), none]) (by decide) (Nat.le_of_ble_eq_true rfl) rfl ?_
  intro p e s m args below meth c C hr hlk
  have C : Cx p s m args c cX12_tower 2 "LeanTowerModel" := C
  have k0 : (0 : Int32).toInt = 0 := by decide
  have k1 : (1 : Int32).toInt = 1 := by decide
  have J75 : ∀ (n : Nat) (τ : Sg) (q75 : Nat), Inv τ → Fr MS_X12_towerT AS_X12_towerT σ τ → (TpM τ T N) → ((((gV τ 22 0 16).toInt = 0 ∧ ((gV τ 22 0 12).toInt = (tS T q75 : Int) ∧ (tK T N q75 ≠ 4 → (gV τ 22 0 11).toInt = (tE T N q75 : Int)) ∧ (gV τ 22 0 13).toInt = (tK T N q75 + 4) % 5 ∧ 0 ≤ tK T N q75 ∧ tK T N q75 ≤ 4 ∧ (tK T N q75 = 2 → (gV τ 22 0 15).toInt = tV T q75) ∧ (gV τ 22 0 12).toInt ≤ 400) ∧ (gV τ 22 0 11).toInt ≤ (gV τ 22 0 6).toInt ∧ Pb τ ∧ LW T N q75 τ.2.2.1 ∧ SI_ T N (gV τ 23 0 152).toInt.toNat (gV τ 23 0 188).toInt.toNat q75) ∨ ((1 ≤ (gV τ 22 0 16).toInt ∧ (gV τ 22 0 16).toInt ≤ 3) ∧ outF T N = (gV τ 22 0 16).toInt ∧ ((gV τ 22 0 12).toInt = outP T N ∧ 0 ≤ outP T N ∧ (gV τ 22 0 12).toInt ≤ 400) ∧ (gV τ 22 0 11).toInt ≤ (gV τ 22 0 6).toInt ∧ 0 ≤ (gV τ 23 0 152).toInt ∧ (gV τ 23 0 152).toInt ≤ 7 ∧ 0 ≤ (gV τ 23 0 188).toInt ∧ (gV τ 23 0 188).toInt ≤ 4))) → (2 * (5 - (gV τ 23 0 188).toInt) + 1 - min 1 (max (gV τ 22 0 16).toInt (-(gV τ 22 0 16).toInt))).toNat < n → MW p l e { frames := 4, cells := 0, slots := 0, locals := 92 } s m args below meth c (MQ below (QP G (PI fun r τ => Inv τ ∧ Fr MS_X12_towerT AS_X12_towerT σ τ ∧ IV r (-1000500) 7 ∧ ((r.toInt = -1000100 - outP T N ∧ outF T N ≠ 0 ∧ (gV τ 22 0 7).toInt = outF T N ∧ (gV τ 22 0 6).toInt = 0) ∨ (r.toInt = outN T N ∧ outF T N = 0 ∧ (gV τ 22 0 7).toInt = (gV σ 22 0 7).toInt ∧ (gV τ 22 0 6).toInt = 0)))) args s 0 0 (aG G)) 2 G 0 0 75 [some (.ref (G.1 22 0)), none] [] τ := by
    intro n
    induction n with
    | zero => intro τ q75 iτ fτ v_T nR hm; exact absurd hm (Nat.not_lt_zero _)
    | succ n ih75 =>
      intro τ q75 iτ fτ v_T nR hm75
      have u1 : IV (gV τ 22 0 11) 0 400 := iτ.1 22 0 11
      have u2 : IV (gV τ 22 0 6) 0 400 := iτ.1 22 0 6
      have u3 : IV (gV τ 23 0 152) 0 7 := iτ.1 23 0 152
      have u4 : IV (gV τ 23 0 188) 0 4 := iτ.1 23 0 188
      have u5 : IV (gV τ 23 0 2) 0 7 := iτ.1 23 0 2
      have q6 : (gV τ 22 0 6).toInt = (N : Int) := v_T.1
      have q7 := v_T.2.1
      rcases nR with ⟨n0_, n1_, n2_, nb, nw, nP⟩ | ⟨n0_, n1_, n2_, n3_, n4_, n5_, n6_, n7_⟩
      · skip
        have b8 : IV (gV τ 22 0 16) 0 0 := ⟨by omega, by omega⟩
        refine m_aload_n C dX12_tower_75 rfl rfl ?_
        refine g_22_16 C q4_132 dX12_tower_76 ?_
        refine m_eqs (w := (gV τ 22 0 16)) rfl ?_
        refine m_if_ne (tgt := 107) C dX12_tower_79 (by decide) (fun c9 => ?_) (fun c9 => ?_)
        · exfalso
          have q : _ := c9
          simp only [ti_nle, ti_nlt, ti_le, ti_lt, ti_eq, ti_ne, Classical.not_not, kt_0] at q
          have q1 := b8; have q2 := kc_0; omega
        · have f11 : (gV τ 22 0 16).toInt = 0 := by
            have q : _ := c9
            simp only [ti_nle, ti_nlt, ti_le, ti_lt, ti_eq, ti_ne, Classical.not_not, kt_0] at q
            omega
          refine m_aload_n C dX12_tower_82 rfl rfl ?_
          refine g_22_13 C q4_129 dX12_tower_83 ?_
          refine m_eqs (w := (gV τ 22 0 13)) rfl ?_
          refine m_if_ne (tgt := 107) C dX12_tower_86 (by decide) (fun c12 => ?_) (fun c12 => ?_)
          · have f13 : (gV τ 22 0 13).toInt ≠ 0 := by
              have q : _ := c12
              simp only [ti_nle, ti_nlt, ti_le, ti_lt, ti_eq, ti_ne, Classical.not_not, kt_0] at q
              omega
            have q14 := nP.no (by omega)
            refine m_aload_n C dX12_tower_107 rfl rfl ?_
            refine m_aload_n C dX12_tower_108 rfl rfl ?_
            refine g_22_16 C q4_132 dX12_tower_109 ?_
            refine m_eqs (w := (gV τ 22 0 16)) rfl ?_
            refine m_if_ne (tgt := 127) C dX12_tower_112 (by decide) (fun c15 => ?_) (fun c15 => ?_)
            · exfalso
              have q : _ := c15
              simp only [ti_nle, ti_nlt, ti_le, ti_lt, ti_eq, ti_ne, Classical.not_not, kt_0] at q
              have q1 := b8; have q2 := kc_0; omega
            · have f17 : (gV τ 22 0 16).toInt = 0 := by
                have q : _ := c15
                simp only [ti_nle, ti_nlt, ti_le, ti_lt, ti_eq, ti_ne, Classical.not_not, kt_0] at q
                omega
              refine m_aload_n C dX12_tower_115 rfl rfl ?_
              refine g_22_13 C q4_129 dX12_tower_116 ?_
              refine m_eqs (w := (gV τ 22 0 13)) rfl ?_
              refine m_iconst (v := 4) C dX12_tower_119 (by decide) ?_
              refine m_icmp_eq (tgt := 127) C dX12_tower_120 (by decide) (fun c18 => ?_) (fun c18 => ?_)
              · have f19 : (gV τ 22 0 13).toInt = 4 := by
                  have q : _ := c18
                  simp only [ti_nle, ti_nlt, ti_le, ti_lt, ti_eq, ti_ne, Classical.not_not, kt_4] at q
                  omega
                have b20 : IV (gV τ 22 0 13) 4 4 := ⟨by have q1 := (iv_any (gV τ 22 0 13)); have q2 := kc_4; omega, by have q1 := (iv_any (gV τ 22 0 13)); have q2 := kc_4; omega⟩
                refine m_aload_n C dX12_tower_127 rfl rfl ?_
                refine g_22_16 C q4_132 dX12_tower_128 ?_
                refine m_eqs (w := (gV τ 22 0 16)) rfl ?_
                refine p_22_16 C q4_132 dX12_tower_131 ?_
                refine m_tops (fun τ21 eτ21 => ?_)
                have i22 : Inv τ21 := eτ21 ▸ Inv.putF iτ (by decide) rfl
                have f23 : Fr MS_X12_towerT AS_X12_towerT σ τ21 := eτ21 ▸ Fr.put (fτ) (Or.inl (by decide))
                have v24 : TpM τ21 T N := v_T.put eτ21 (Or.inr (by decide)) (by decide)
                have v25 : τ21.2.2.1 = τ.2.2.1 := by rw [eτ21]; rfl
                have v26 : LW T N q75 τ21.2.2.1 := by rw [eτ21]; exact nw
                have v27 : Pb τ21 := nb.put eτ21 (Or.inl (by decide))
                refine m_aload_n C dX12_tower_134 rfl rfl ?_
                refine m_iconst (v := 0) C dX12_tower_135 (by decide) ?_
                refine p_22_6 C q4_122 dX12_tower_136 ?_
                refine m_tops (fun τ28 eτ28 => ?_)
                have i29 : Inv τ28 := eτ28 ▸ Inv.put i22 (by decide) (iv_wk kc_0 (by decide))
                have f30 : Fr MS_X12_towerT AS_X12_towerT σ τ28 := eτ28 ▸ Fr.put (f23) (Or.inl (by decide))
                have v32 : τ28.2.2.1 = τ.2.2.1 := by rw [eτ28]; exact v25
                have v33 : LW T N q75 τ28.2.2.1 := by rw [eτ28]; exact v26
                have v34 : Pb τ28 := v27.put eτ28 (Or.inl (by decide))
                refine m_aload_n C dX12_tower_139 rfl rfl ?_
                refine g_22_16 C q4_132 dX12_tower_140 ?_
                refine m_eqs (w := (gV τ 22 0 16)) (show gV τ28 22 0 16 = (gV τ 22 0 16) from gV_put eτ28 (show gV τ21 22 0 16 = (gV τ 22 0 16) from gV_put eτ21 (gV_self _ _ _ _ _))) ?_
                refine m_if_eq (tgt := 162) C dX12_tower_143 (by decide) (fun c35 => ?_) (fun c35 => ?_)
                · have f36 : (gV τ 22 0 16).toInt = 0 := by
                    have q : _ := c35
                    simp only [ti_nle, ti_nlt, ti_le, ti_lt, ti_eq, ti_ne, Classical.not_not, kt_0] at q
                    omega
                  refine m_aload_n C dX12_tower_162 rfl rfl ?_
                  refine m_sipush (v := 150) C dX12_tower_163 (by decide) ?_
                  refine m_iconst (v := 0) C dX12_tower_166 (by decide) ?_
                  have q37 : (gV τ28 22 0 11).toInt = (gV τ 22 0 11).toInt := congrArg Int32.toInt (show (gV τ28 22 0 11) = (gV τ 22 0 11) from (show gV τ28 22 0 11 = (gV τ 22 0 11) from gV_put eτ28 (show gV τ21 22 0 11 = (gV τ 22 0 11) from gV_put eτ21 rfl)))
                  have q38 : (gV τ28 22 0 12).toInt = (gV τ 22 0 12).toInt := congrArg Int32.toInt (show (gV τ28 22 0 12) = (gV τ 22 0 12) from (show gV τ28 22 0 12 = (gV τ 22 0 12) from gV_put eτ28 (show gV τ21 22 0 12 = (gV τ 22 0 12) from gV_put eτ21 rfl)))
                  have q39 : (gV τ28 22 0 13).toInt = (gV τ 22 0 13).toInt := congrArg Int32.toInt (show (gV τ28 22 0 13) = (gV τ 22 0 13) from (show gV τ28 22 0 13 = (gV τ 22 0 13) from gV_put eτ28 (show gV τ21 22 0 13 = (gV τ 22 0 13) from gV_put eτ21 rfl)))
                  have q40 : (gV τ28 22 0 15).toInt = (gV τ 22 0 15).toInt := congrArg Int32.toInt (show (gV τ28 22 0 15) = (gV τ 22 0 15) from (show gV τ28 22 0 15 = (gV τ 22 0 15) from gV_put eτ28 (show gV τ21 22 0 15 = (gV τ 22 0 15) from gV_put eτ21 rfl)))
                  have q41 : (gV τ28 22 0 7).toInt = (gV τ 22 0 7).toInt := congrArg Int32.toInt (show (gV τ28 22 0 7) = (gV τ 22 0 7) from (show gV τ28 22 0 7 = (gV τ 22 0 7) from gV_put eτ28 (show gV τ21 22 0 7 = (gV τ 22 0 7) from gV_put eτ21 rfl)))
                  have q42 : (gV τ28 23 0 150).toInt = (gV τ 23 0 150).toInt := congrArg Int32.toInt (show (gV τ28 23 0 150) = (gV τ 23 0 150) from (show gV τ28 23 0 150 = (gV τ 23 0 150) from gV_put eτ28 (show gV τ21 23 0 150 = (gV τ 23 0 150) from gV_put eτ21 rfl)))
                  have q43 : (gV τ28 23 0 152).toInt = (gV τ 23 0 152).toInt := congrArg Int32.toInt (show (gV τ28 23 0 152) = (gV τ 23 0 152) from (show gV τ28 23 0 152 = (gV τ 23 0 152) from gV_put eτ28 (show gV τ21 23 0 152 = (gV τ 23 0 152) from gV_put eτ21 rfl)))
                  have q44 : (gV τ28 23 0 188).toInt = (gV τ 23 0 188).toInt := congrArg Int32.toInt (show (gV τ28 23 0 188) = (gV τ 23 0 188) from (show gV τ28 23 0 188 = (gV τ 23 0 188) from gV_put eτ28 (show gV τ21 23 0 188 = (gV τ 23 0 188) from gV_put eτ21 rfl)))
                  have q45 : (gV τ28 23 0 2).toInt = (gV τ 23 0 2).toInt := congrArg Int32.toInt (show (gV τ28 23 0 2) = (gV τ 23 0 2) from (show gV τ28 23 0 2 = (gV τ 23 0 2) from gV_put eτ28 (show gV τ21 23 0 2 = (gV τ 23 0 2) from gV_put eτ21 rfl)))
                  have q46 : (gV τ28 22 0 16).toInt = (gV τ 22 0 16).toInt := congrArg Int32.toInt (show (gV τ28 22 0 16) = (gV τ 22 0 16) from (show gV τ28 22 0 16 = (gV τ 22 0 16) from gV_put eτ28 (show gV τ21 22 0 16 = (gV τ 22 0 16) from gV_put eτ21 (gV_self _ _ _ _ _))))
                  have q47 : (gV τ28 22 0 6).toInt = 0 := (congrArg Int32.toInt (show (gV τ28 22 0 6) = 0 from (show gV τ28 22 0 6 = 0 from gV_put eτ28 (gV_self _ _ _ _ _)))).trans kt_0
                  have q48 := kt_150
                  have q49 := kt_0
                  refine m_callV (n := 2) (ci := 11) (st := []) C (c_X12_copyAll l G τ28 (150) (0) i29 (iv_wk kc_150 (by decide)) (iv_wk kc_0 (by decide)) (by omega) (by omega) (by omega) (Or.inr v34)) (by decide) (by decide) rfl rfl rfl q5_38 q5_35 q5_37 q0_35 q1_7 (by decide +kernel) rfl (by decide) (by decide) rfl (Nat.le_of_ble_eq_true rfl) dX12_tower_167 ?_
                  rintro _ τ50 ⟨rfl, i51, f52, h56⟩
                  have g55 : Fr MS_X12_towerT AS_X12_towerT σ τ50 := Fr.call (f30) f52 (by decide)
                  have u57 : IV (gV τ50 23 0 152) 0 7 := i51.1 23 0 152
                  have u58 : IV (gV τ50 23 0 188) 0 4 := i51.1 23 0 188
                  have u59 : IV (gV τ50 23 0 2) 0 7 := i51.1 23 0 2
                  have q60 : (gV τ50 22 0 11).toInt = (gV τ 22 0 11).toInt := congrArg Int32.toInt (show (gV τ50 22 0 11) = (gV τ 22 0 11) from (show gV τ50 22 0 11 = (gV τ 22 0 11) from (f52.1 22 0 (11) (by decide) (by decide)).trans (show gV τ28 22 0 11 = (gV τ 22 0 11) from gV_put eτ28 (show gV τ21 22 0 11 = (gV τ 22 0 11) from gV_put eτ21 rfl))))
                  have q61 : (gV τ50 22 0 12).toInt = (gV τ 22 0 12).toInt := congrArg Int32.toInt (show (gV τ50 22 0 12) = (gV τ 22 0 12) from (show gV τ50 22 0 12 = (gV τ 22 0 12) from (f52.1 22 0 (12) (by decide) (by decide)).trans (show gV τ28 22 0 12 = (gV τ 22 0 12) from gV_put eτ28 (show gV τ21 22 0 12 = (gV τ 22 0 12) from gV_put eτ21 rfl))))
                  have q62 : (gV τ50 22 0 13).toInt = (gV τ 22 0 13).toInt := congrArg Int32.toInt (show (gV τ50 22 0 13) = (gV τ 22 0 13) from (show gV τ50 22 0 13 = (gV τ 22 0 13) from (f52.1 22 0 (13) (by decide) (by decide)).trans (show gV τ28 22 0 13 = (gV τ 22 0 13) from gV_put eτ28 (show gV τ21 22 0 13 = (gV τ 22 0 13) from gV_put eτ21 rfl))))
                  have q63 : (gV τ50 22 0 15).toInt = (gV τ 22 0 15).toInt := congrArg Int32.toInt (show (gV τ50 22 0 15) = (gV τ 22 0 15) from (show gV τ50 22 0 15 = (gV τ 22 0 15) from (f52.1 22 0 (15) (by decide) (by decide)).trans (show gV τ28 22 0 15 = (gV τ 22 0 15) from gV_put eτ28 (show gV τ21 22 0 15 = (gV τ 22 0 15) from gV_put eτ21 rfl))))
                  have q64 : (gV τ50 22 0 7).toInt = (gV τ 22 0 7).toInt := congrArg Int32.toInt (show (gV τ50 22 0 7) = (gV τ 22 0 7) from (show gV τ50 22 0 7 = (gV τ 22 0 7) from (f52.1 22 0 (7) (by decide) (by decide)).trans (show gV τ28 22 0 7 = (gV τ 22 0 7) from gV_put eτ28 (show gV τ21 22 0 7 = (gV τ 22 0 7) from gV_put eτ21 rfl))))
                  have q65 : (gV τ50 22 0 16).toInt = (gV τ 22 0 16).toInt := congrArg Int32.toInt (show (gV τ50 22 0 16) = (gV τ 22 0 16) from (show gV τ50 22 0 16 = (gV τ 22 0 16) from (f52.1 22 0 (16) (by decide) (by decide)).trans (show gV τ28 22 0 16 = (gV τ 22 0 16) from gV_put eτ28 (show gV τ21 22 0 16 = (gV τ 22 0 16) from gV_put eτ21 (gV_self _ _ _ _ _)))))
                  have q66 : (gV τ50 22 0 6).toInt = 0 := (congrArg Int32.toInt (show (gV τ50 22 0 6) = 0 from (show gV τ50 22 0 6 = 0 from (f52.1 22 0 (6) (by decide) (by decide)).trans (show gV τ28 22 0 6 = 0 from gV_put eτ28 (gV_self _ _ _ _ _))))).trans kt_0
                  have q67 : (gV τ50 23 0 2).toInt = (gV τ28 23 0 152).toInt := congrArg Int32.toInt (h56.2.1 2 (by decide))
                  show MW p l e _ s m args below meth c _ 2 G 0 0 170 [some (.ref (G.1 22 0)), none] [] τ50
                  refine m_aload_n C dX12_tower_170 rfl rfl ?_
                  refine m_iconst (v := 0) C dX12_tower_171 (by decide) ?_
                  refine p_22_9 C q4_125 dX12_tower_172 ?_
                  refine m_tops (fun τ68 eτ68 => ?_)
                  have i69 : Inv τ68 := eτ68 ▸ Inv.put i51 (by decide) (iv_wk kc_0 (by decide))
                  have f70 : Fr MS_X12_towerT AS_X12_towerT σ τ68 := eτ68 ▸ Fr.put (g55) (Or.inl (by decide))
                  have v71 : Pb τ68 := v34.put eτ68 (Or.inl (by decide))
                  refine m_aload_n C dX12_tower_175 rfl rfl ?_
                  refine g_22_0 C q4_116 dX12_tower_176 ?_
                  refine m_iconst (v := 2) C dX12_tower_179 (by decide) ?_
                  refine al_23 C kc_2 (by decide) kn_2 dX12_tower_180 ?_
                  refine m_eqs (w := (gV τ50 23 0 2)) (show gV τ68 23 0 2 = (gV τ50 23 0 2) from gV_put eτ68 rfl) ?_
                  have q72 : (gV τ68 22 0 11).toInt = (gV τ 22 0 11).toInt := congrArg Int32.toInt (show (gV τ68 22 0 11) = (gV τ 22 0 11) from (show gV τ68 22 0 11 = (gV τ 22 0 11) from gV_put eτ68 (show gV τ50 22 0 11 = (gV τ 22 0 11) from (f52.1 22 0 (11) (by decide) (by decide)).trans (show gV τ28 22 0 11 = (gV τ 22 0 11) from gV_put eτ28 (show gV τ21 22 0 11 = (gV τ 22 0 11) from gV_put eτ21 rfl)))))
                  have q73 : (gV τ68 22 0 12).toInt = (gV τ 22 0 12).toInt := congrArg Int32.toInt (show (gV τ68 22 0 12) = (gV τ 22 0 12) from (show gV τ68 22 0 12 = (gV τ 22 0 12) from gV_put eτ68 (show gV τ50 22 0 12 = (gV τ 22 0 12) from (f52.1 22 0 (12) (by decide) (by decide)).trans (show gV τ28 22 0 12 = (gV τ 22 0 12) from gV_put eτ28 (show gV τ21 22 0 12 = (gV τ 22 0 12) from gV_put eτ21 rfl)))))
                  have q74 : (gV τ68 22 0 13).toInt = (gV τ 22 0 13).toInt := congrArg Int32.toInt (show (gV τ68 22 0 13) = (gV τ 22 0 13) from (show gV τ68 22 0 13 = (gV τ 22 0 13) from gV_put eτ68 (show gV τ50 22 0 13 = (gV τ 22 0 13) from (f52.1 22 0 (13) (by decide) (by decide)).trans (show gV τ28 22 0 13 = (gV τ 22 0 13) from gV_put eτ28 (show gV τ21 22 0 13 = (gV τ 22 0 13) from gV_put eτ21 rfl)))))
                  have q75 : (gV τ68 22 0 15).toInt = (gV τ 22 0 15).toInt := congrArg Int32.toInt (show (gV τ68 22 0 15) = (gV τ 22 0 15) from (show gV τ68 22 0 15 = (gV τ 22 0 15) from gV_put eτ68 (show gV τ50 22 0 15 = (gV τ 22 0 15) from (f52.1 22 0 (15) (by decide) (by decide)).trans (show gV τ28 22 0 15 = (gV τ 22 0 15) from gV_put eτ28 (show gV τ21 22 0 15 = (gV τ 22 0 15) from gV_put eτ21 rfl)))))
                  have q76 : (gV τ68 22 0 7).toInt = (gV τ 22 0 7).toInt := congrArg Int32.toInt (show (gV τ68 22 0 7) = (gV τ 22 0 7) from (show gV τ68 22 0 7 = (gV τ 22 0 7) from gV_put eτ68 (show gV τ50 22 0 7 = (gV τ 22 0 7) from (f52.1 22 0 (7) (by decide) (by decide)).trans (show gV τ28 22 0 7 = (gV τ 22 0 7) from gV_put eτ28 (show gV τ21 22 0 7 = (gV τ 22 0 7) from gV_put eτ21 rfl)))))
                  have q77 : (gV τ68 22 0 16).toInt = (gV τ 22 0 16).toInt := congrArg Int32.toInt (show (gV τ68 22 0 16) = (gV τ 22 0 16) from (show gV τ68 22 0 16 = (gV τ 22 0 16) from gV_put eτ68 (show gV τ50 22 0 16 = (gV τ 22 0 16) from (f52.1 22 0 (16) (by decide) (by decide)).trans (show gV τ28 22 0 16 = (gV τ 22 0 16) from gV_put eτ28 (show gV τ21 22 0 16 = (gV τ 22 0 16) from gV_put eτ21 (gV_self _ _ _ _ _))))))
                  have q78 : (gV τ68 22 0 6).toInt = 0 := (congrArg Int32.toInt (show (gV τ68 22 0 6) = 0 from (show gV τ68 22 0 6 = 0 from gV_put eτ68 (show gV τ50 22 0 6 = 0 from (f52.1 22 0 (6) (by decide) (by decide)).trans (show gV τ28 22 0 6 = 0 from gV_put eτ28 (gV_self _ _ _ _ _)))))).trans kt_0
                  have q79 : (gV τ68 23 0 150).toInt = (gV τ50 23 0 150).toInt := congrArg Int32.toInt (show (gV τ68 23 0 150) = (gV τ50 23 0 150) from (show gV τ68 23 0 150 = (gV τ50 23 0 150) from gV_put eτ68 rfl))
                  have q80 : (gV τ68 23 0 152).toInt = (gV τ50 23 0 152).toInt := congrArg Int32.toInt (show (gV τ68 23 0 152) = (gV τ50 23 0 152) from (show gV τ68 23 0 152 = (gV τ50 23 0 152) from gV_put eτ68 rfl))
                  have q81 : (gV τ68 23 0 188).toInt = (gV τ50 23 0 188).toInt := congrArg Int32.toInt (show (gV τ68 23 0 188) = (gV τ50 23 0 188) from (show gV τ68 23 0 188 = (gV τ50 23 0 188) from gV_put eτ68 rfl))
                  have q82 : (gV τ68 23 0 2).toInt = (gV τ50 23 0 2).toInt := congrArg Int32.toInt (show (gV τ68 23 0 2) = (gV τ50 23 0 2) from (show gV τ68 23 0 2 = (gV τ50 23 0 2) from gV_put eτ68 rfl))
                  exact m_iret C hr hlk (by decide) (by decide) dX12_tower_181 ⟨_, rfl, i69, f70, (iv_wk u59 (by decide)), (Or.inr (⟨by omega, by omega, by omega, by omega⟩))⟩
                · exfalso
                  have q : _ := c35
                  simp only [ti_nle, ti_nlt, ti_le, ti_lt, ti_eq, ti_ne, Classical.not_not, kt_0] at q
                  have q1 := b8; have q2 := kc_0; omega
              · have f84 : (gV τ 22 0 13).toInt ≠ 4 := by
                  have q : _ := c18
                  simp only [ti_nle, ti_nlt, ti_le, ti_lt, ti_eq, ti_ne, Classical.not_not, kt_4] at q
                  omega
                refine m_iconst (v := 1) C dX12_tower_123 (by decide) ?_
                refine m_goto (tgt := 131) C dX12_tower_124 (by decide) ?_
                refine p_22_16 C q4_132 dX12_tower_131 ?_
                refine m_tops (fun τ85 eτ85 => ?_)
                have i86 : Inv τ85 := eτ85 ▸ Inv.putF iτ (by decide) rfl
                have f87 : Fr MS_X12_towerT AS_X12_towerT σ τ85 := eτ85 ▸ Fr.put (fτ) (Or.inl (by decide))
                have v88 : TpM τ85 T N := v_T.put eτ85 (Or.inr (by decide)) (by decide)
                have v89 : τ85.2.2.1 = τ.2.2.1 := by rw [eτ85]; rfl
                have v90 : LW T N q75 τ85.2.2.1 := by rw [eτ85]; exact nw
                have v91 : Pb τ85 := nb.put eτ85 (Or.inl (by decide))
                refine m_aload_n C dX12_tower_134 rfl rfl ?_
                refine m_iconst (v := 0) C dX12_tower_135 (by decide) ?_
                refine p_22_6 C q4_122 dX12_tower_136 ?_
                refine m_tops (fun τ92 eτ92 => ?_)
                have i93 : Inv τ92 := eτ92 ▸ Inv.put i86 (by decide) (iv_wk kc_0 (by decide))
                have f94 : Fr MS_X12_towerT AS_X12_towerT σ τ92 := eτ92 ▸ Fr.put (f87) (Or.inl (by decide))
                have v96 : τ92.2.2.1 = τ.2.2.1 := by rw [eτ92]; exact v89
                have v97 : LW T N q75 τ92.2.2.1 := by rw [eτ92]; exact v90
                have v98 : Pb τ92 := v91.put eτ92 (Or.inl (by decide))
                refine m_aload_n C dX12_tower_139 rfl rfl ?_
                refine g_22_16 C q4_132 dX12_tower_140 ?_
                refine m_eqs (w := 1) (show gV τ92 22 0 16 = 1 from gV_put eτ92 (show gV τ85 22 0 16 = 1 from gV_put eτ85 (gV_self _ _ _ _ _))) ?_
                refine m_if_eq (tgt := 162) C dX12_tower_143 (by decide) (fun c99 => ?_) (fun c99 => ?_)
                · first | exact absurd c99 (by decide) | exact absurd (by decide) c99
                · have f101 : 1 ≠ 0 := by
                    have q : _ := c99
                    simp only [ti_nle, ti_nlt, ti_le, ti_lt, ti_eq, ti_ne, Classical.not_not, kt_1, kt_0] at q
                    omega
                  refine m_aload_n C dX12_tower_146 rfl rfl ?_
                  refine m_aload_n C dX12_tower_147 rfl rfl ?_
                  refine g_22_16 C q4_132 dX12_tower_148 ?_
                  refine m_eqs (w := 1) (show gV τ92 22 0 16 = 1 from gV_put eτ92 (show gV τ85 22 0 16 = 1 from gV_put eτ85 (gV_self _ _ _ _ _))) ?_
                  refine p_22_7 C q4_123 dX12_tower_151 ?_
                  refine m_tops (fun τ102 eτ102 => ?_)
                  have i103 : Inv τ102 := eτ102 ▸ Inv.putF i93 (by decide) rfl
                  have f104 : Fr MS_X12_towerT AS_X12_towerT σ τ102 := eτ102 ▸ Fr.put (f94) (Or.inl (by decide))
                  have v105 : τ102.2.2.1 = τ.2.2.1 := by rw [eτ102]; exact v96
                  have v106 : LW T N q75 τ102.2.2.1 := by rw [eτ102]; exact v97
                  have v107 : Pb τ102 := v98.put eτ102 (Or.inl (by decide))
                  refine m_ldc (v := (-1000100)) C dX12_tower_154 q5_34 ?_
                  refine m_aload_n C dX12_tower_156 rfl rfl ?_
                  refine g_22_12 C q4_128 dX12_tower_157 ?_
                  refine m_eqs (w := (gV τ 22 0 12)) (show gV τ102 22 0 12 = (gV τ 22 0 12) from gV_put eτ102 (show gV τ92 22 0 12 = (gV τ 22 0 12) from gV_put eτ92 (show gV τ85 22 0 12 = (gV τ 22 0 12) from gV_put eτ85 rfl))) ?_
                  have q108 : (gV τ102 22 0 11).toInt = (gV τ 22 0 11).toInt := congrArg Int32.toInt (show (gV τ102 22 0 11) = (gV τ 22 0 11) from (show gV τ102 22 0 11 = (gV τ 22 0 11) from gV_put eτ102 (show gV τ92 22 0 11 = (gV τ 22 0 11) from gV_put eτ92 (show gV τ85 22 0 11 = (gV τ 22 0 11) from gV_put eτ85 rfl))))
                  have q109 : (gV τ102 22 0 12).toInt = (gV τ 22 0 12).toInt := congrArg Int32.toInt (show (gV τ102 22 0 12) = (gV τ 22 0 12) from (show gV τ102 22 0 12 = (gV τ 22 0 12) from gV_put eτ102 (show gV τ92 22 0 12 = (gV τ 22 0 12) from gV_put eτ92 (show gV τ85 22 0 12 = (gV τ 22 0 12) from gV_put eτ85 rfl))))
                  have q110 : (gV τ102 22 0 13).toInt = (gV τ 22 0 13).toInt := congrArg Int32.toInt (show (gV τ102 22 0 13) = (gV τ 22 0 13) from (show gV τ102 22 0 13 = (gV τ 22 0 13) from gV_put eτ102 (show gV τ92 22 0 13 = (gV τ 22 0 13) from gV_put eτ92 (show gV τ85 22 0 13 = (gV τ 22 0 13) from gV_put eτ85 rfl))))
                  have q111 : (gV τ102 22 0 15).toInt = (gV τ 22 0 15).toInt := congrArg Int32.toInt (show (gV τ102 22 0 15) = (gV τ 22 0 15) from (show gV τ102 22 0 15 = (gV τ 22 0 15) from gV_put eτ102 (show gV τ92 22 0 15 = (gV τ 22 0 15) from gV_put eτ92 (show gV τ85 22 0 15 = (gV τ 22 0 15) from gV_put eτ85 rfl))))
                  have q112 : (gV τ102 23 0 150).toInt = (gV τ 23 0 150).toInt := congrArg Int32.toInt (show (gV τ102 23 0 150) = (gV τ 23 0 150) from (show gV τ102 23 0 150 = (gV τ 23 0 150) from gV_put eτ102 (show gV τ92 23 0 150 = (gV τ 23 0 150) from gV_put eτ92 (show gV τ85 23 0 150 = (gV τ 23 0 150) from gV_put eτ85 rfl))))
                  have q113 : (gV τ102 23 0 152).toInt = (gV τ 23 0 152).toInt := congrArg Int32.toInt (show (gV τ102 23 0 152) = (gV τ 23 0 152) from (show gV τ102 23 0 152 = (gV τ 23 0 152) from gV_put eτ102 (show gV τ92 23 0 152 = (gV τ 23 0 152) from gV_put eτ92 (show gV τ85 23 0 152 = (gV τ 23 0 152) from gV_put eτ85 rfl))))
                  have q114 : (gV τ102 23 0 188).toInt = (gV τ 23 0 188).toInt := congrArg Int32.toInt (show (gV τ102 23 0 188) = (gV τ 23 0 188) from (show gV τ102 23 0 188 = (gV τ 23 0 188) from gV_put eτ102 (show gV τ92 23 0 188 = (gV τ 23 0 188) from gV_put eτ92 (show gV τ85 23 0 188 = (gV τ 23 0 188) from gV_put eτ85 rfl))))
                  have q115 : (gV τ102 23 0 2).toInt = (gV τ 23 0 2).toInt := congrArg Int32.toInt (show (gV τ102 23 0 2) = (gV τ 23 0 2) from (show gV τ102 23 0 2 = (gV τ 23 0 2) from gV_put eτ102 (show gV τ92 23 0 2 = (gV τ 23 0 2) from gV_put eτ92 (show gV τ85 23 0 2 = (gV τ 23 0 2) from gV_put eτ85 rfl))))
                  have q116 : (gV τ102 22 0 16).toInt = 1 := (congrArg Int32.toInt (show (gV τ102 22 0 16) = 1 from (show gV τ102 22 0 16 = 1 from gV_put eτ102 (show gV τ92 22 0 16 = 1 from gV_put eτ92 (show gV τ85 22 0 16 = 1 from gV_put eτ85 (gV_self _ _ _ _ _)))))).trans kt_1
                  have q117 : (gV τ102 22 0 6).toInt = 0 := (congrArg Int32.toInt (show (gV τ102 22 0 6) = 0 from (show gV τ102 22 0 6 = 0 from gV_put eτ102 (show gV τ92 22 0 6 = 0 from gV_put eτ92 (gV_self _ _ _ _ _))))).trans kt_0
                  have q118 : (gV τ102 22 0 7).toInt = 1 := (congrArg Int32.toInt (show (gV τ102 22 0 7) = 1 from (show gV τ102 22 0 7 = 1 from gV_put eτ102 (gV_self _ _ _ _ _)))).trans kt_1
                  have b119 : IV (gV τ 22 0 12) 0 400 := ⟨by have q1 := (iv_any (gV τ 22 0 12)); omega, by have q1 := (iv_any (gV τ 22 0 12)); omega⟩
                  refine m_isub C dX12_tower_160 ?_
                  refine m_topi (fun x120 ex120 => ?_)
                  have tx120 : x120.toInt = -1000100 - (gV τ 22 0 12).toInt := by rw [ex120, ti_subv kc_m1000100 b119 (by decide), kt_m1000100]
                  have b121 : IV x120 (-1000500) (-1000100) := by rw [ex120]; exact iv_sub kc_m1000100 b119 (by decide)
                  exact m_iret C hr hlk (by decide) (by decide) dX12_tower_161 ⟨_, rfl, i103, f104, (iv_wk b121 (by decide)), (Or.inl ⟨by omega, by omega, by omega, by omega⟩)⟩
          · have f122 : (gV τ 22 0 13).toInt = 0 := by
              have q : _ := c12
              simp only [ti_nle, ti_nlt, ti_le, ti_lt, ti_eq, ti_ne, Classical.not_not, kt_0] at q
              omega
            have b123 : IV (gV τ 22 0 13) 0 0 := ⟨by have q1 := (iv_any (gV τ 22 0 13)); have q2 := kc_0; omega, by have q1 := (iv_any (gV τ 22 0 13)); have q2 := kc_0; omega⟩
            refine m_aload_n C dX12_tower_89 rfl rfl ?_
            refine g_22_14 C q4_130 dX12_tower_90 ?_
            refine m_topl (fun w124 ew124 => ?_)
            have q125 : tK T N q75 = 1 := by omega
            have q126 : (w124.toInt = 20594117 ↔ tW T N q75 7 = 1) := by rw [ew124]; exact LW.at7 nw q125
            refine m_ldc2 (v := 20594117) C dX12_tower_93 q5_29 ?_
            refine m_lcmp C dX12_tower_96 ?_
            refine m_topi (fun x127 ex127 => ?_)
            have b128 : IV x127 (-1) 1 := by rw [ex127]; rcases lgc w124 20594117 with q | q | q <;> omega
            have f129 := lgc w124 20594117
            rw [← ex127] at f129
            have f131 := kl_20594117
            refine m_if_ne (tgt := 107) C dX12_tower_97 (by decide) (fun c132 => ?_) (fun c132 => ?_)
            · have f133 : x127.toInt ≠ 0 := by
                have q : _ := c132
                simp only [ti_nle, ti_nlt, ti_le, ti_lt, ti_eq, ti_ne, Classical.not_not, kt_0] at q
                omega
              have q134 := nP.no (by omega)
              refine m_aload_n C dX12_tower_107 rfl rfl ?_
              refine m_aload_n C dX12_tower_108 rfl rfl ?_
              refine g_22_16 C q4_132 dX12_tower_109 ?_
              refine m_eqs (w := (gV τ 22 0 16)) rfl ?_
              refine m_if_ne (tgt := 127) C dX12_tower_112 (by decide) (fun c135 => ?_) (fun c135 => ?_)
              · exfalso
                have q : _ := c135
                simp only [ti_nle, ti_nlt, ti_le, ti_lt, ti_eq, ti_ne, Classical.not_not, kt_0] at q
                have q1 := b8; have q2 := kc_0; omega
              · have f137 : (gV τ 22 0 16).toInt = 0 := by
                  have q : _ := c135
                  simp only [ti_nle, ti_nlt, ti_le, ti_lt, ti_eq, ti_ne, Classical.not_not, kt_0] at q
                  omega
                refine m_aload_n C dX12_tower_115 rfl rfl ?_
                refine g_22_13 C q4_129 dX12_tower_116 ?_
                refine m_eqs (w := (gV τ 22 0 13)) rfl ?_
                refine m_iconst (v := 4) C dX12_tower_119 (by decide) ?_
                refine m_icmp_eq (tgt := 127) C dX12_tower_120 (by decide) (fun c138 => ?_) (fun c138 => ?_)
                · exfalso
                  have q : _ := c138
                  simp only [ti_nle, ti_nlt, ti_le, ti_lt, ti_eq, ti_ne, Classical.not_not, kt_4] at q
                  have q1 := b123; have q2 := kc_4; omega
                · have f140 : (gV τ 22 0 13).toInt ≠ 4 := by
                    have q : _ := c138
                    simp only [ti_nle, ti_nlt, ti_le, ti_lt, ti_eq, ti_ne, Classical.not_not, kt_4] at q
                    omega
                  refine m_iconst (v := 1) C dX12_tower_123 (by decide) ?_
                  refine m_goto (tgt := 131) C dX12_tower_124 (by decide) ?_
                  refine p_22_16 C q4_132 dX12_tower_131 ?_
                  refine m_tops (fun τ141 eτ141 => ?_)
                  have i142 : Inv τ141 := eτ141 ▸ Inv.putF iτ (by decide) rfl
                  have f143 : Fr MS_X12_towerT AS_X12_towerT σ τ141 := eτ141 ▸ Fr.put (fτ) (Or.inl (by decide))
                  have v144 : TpM τ141 T N := v_T.put eτ141 (Or.inr (by decide)) (by decide)
                  have v145 : τ141.2.2.1 = τ.2.2.1 := by rw [eτ141]; rfl
                  have v146 : LW T N q75 τ141.2.2.1 := by rw [eτ141]; exact nw
                  have v147 : Pb τ141 := nb.put eτ141 (Or.inl (by decide))
                  refine m_aload_n C dX12_tower_134 rfl rfl ?_
                  refine m_iconst (v := 0) C dX12_tower_135 (by decide) ?_
                  refine p_22_6 C q4_122 dX12_tower_136 ?_
                  refine m_tops (fun τ148 eτ148 => ?_)
                  have i149 : Inv τ148 := eτ148 ▸ Inv.put i142 (by decide) (iv_wk kc_0 (by decide))
                  have f150 : Fr MS_X12_towerT AS_X12_towerT σ τ148 := eτ148 ▸ Fr.put (f143) (Or.inl (by decide))
                  have v152 : τ148.2.2.1 = τ.2.2.1 := by rw [eτ148]; exact v145
                  have v153 : LW T N q75 τ148.2.2.1 := by rw [eτ148]; exact v146
                  have v154 : Pb τ148 := v147.put eτ148 (Or.inl (by decide))
                  refine m_aload_n C dX12_tower_139 rfl rfl ?_
                  refine g_22_16 C q4_132 dX12_tower_140 ?_
                  refine m_eqs (w := 1) (show gV τ148 22 0 16 = 1 from gV_put eτ148 (show gV τ141 22 0 16 = 1 from gV_put eτ141 (gV_self _ _ _ _ _))) ?_
                  refine m_if_eq (tgt := 162) C dX12_tower_143 (by decide) (fun c155 => ?_) (fun c155 => ?_)
                  · first | exact absurd c155 (by decide) | exact absurd (by decide) c155
                  · have f157 : 1 ≠ 0 := by
                      have q : _ := c155
                      simp only [ti_nle, ti_nlt, ti_le, ti_lt, ti_eq, ti_ne, Classical.not_not, kt_1, kt_0] at q
                      omega
                    refine m_aload_n C dX12_tower_146 rfl rfl ?_
                    refine m_aload_n C dX12_tower_147 rfl rfl ?_
                    refine g_22_16 C q4_132 dX12_tower_148 ?_
                    refine m_eqs (w := 1) (show gV τ148 22 0 16 = 1 from gV_put eτ148 (show gV τ141 22 0 16 = 1 from gV_put eτ141 (gV_self _ _ _ _ _))) ?_
                    refine p_22_7 C q4_123 dX12_tower_151 ?_
                    refine m_tops (fun τ158 eτ158 => ?_)
                    have i159 : Inv τ158 := eτ158 ▸ Inv.putF i149 (by decide) rfl
                    have f160 : Fr MS_X12_towerT AS_X12_towerT σ τ158 := eτ158 ▸ Fr.put (f150) (Or.inl (by decide))
                    have v161 : τ158.2.2.1 = τ.2.2.1 := by rw [eτ158]; exact v152
                    have v162 : LW T N q75 τ158.2.2.1 := by rw [eτ158]; exact v153
                    have v163 : Pb τ158 := v154.put eτ158 (Or.inl (by decide))
                    refine m_ldc (v := (-1000100)) C dX12_tower_154 q5_34 ?_
                    refine m_aload_n C dX12_tower_156 rfl rfl ?_
                    refine g_22_12 C q4_128 dX12_tower_157 ?_
                    refine m_eqs (w := (gV τ 22 0 12)) (show gV τ158 22 0 12 = (gV τ 22 0 12) from gV_put eτ158 (show gV τ148 22 0 12 = (gV τ 22 0 12) from gV_put eτ148 (show gV τ141 22 0 12 = (gV τ 22 0 12) from gV_put eτ141 rfl))) ?_
                    have q164 : (gV τ158 22 0 11).toInt = (gV τ 22 0 11).toInt := congrArg Int32.toInt (show (gV τ158 22 0 11) = (gV τ 22 0 11) from (show gV τ158 22 0 11 = (gV τ 22 0 11) from gV_put eτ158 (show gV τ148 22 0 11 = (gV τ 22 0 11) from gV_put eτ148 (show gV τ141 22 0 11 = (gV τ 22 0 11) from gV_put eτ141 rfl))))
                    have q165 : (gV τ158 22 0 12).toInt = (gV τ 22 0 12).toInt := congrArg Int32.toInt (show (gV τ158 22 0 12) = (gV τ 22 0 12) from (show gV τ158 22 0 12 = (gV τ 22 0 12) from gV_put eτ158 (show gV τ148 22 0 12 = (gV τ 22 0 12) from gV_put eτ148 (show gV τ141 22 0 12 = (gV τ 22 0 12) from gV_put eτ141 rfl))))
                    have q166 : (gV τ158 22 0 13).toInt = (gV τ 22 0 13).toInt := congrArg Int32.toInt (show (gV τ158 22 0 13) = (gV τ 22 0 13) from (show gV τ158 22 0 13 = (gV τ 22 0 13) from gV_put eτ158 (show gV τ148 22 0 13 = (gV τ 22 0 13) from gV_put eτ148 (show gV τ141 22 0 13 = (gV τ 22 0 13) from gV_put eτ141 rfl))))
                    have q167 : (gV τ158 22 0 15).toInt = (gV τ 22 0 15).toInt := congrArg Int32.toInt (show (gV τ158 22 0 15) = (gV τ 22 0 15) from (show gV τ158 22 0 15 = (gV τ 22 0 15) from gV_put eτ158 (show gV τ148 22 0 15 = (gV τ 22 0 15) from gV_put eτ148 (show gV τ141 22 0 15 = (gV τ 22 0 15) from gV_put eτ141 rfl))))
                    have q168 : (gV τ158 23 0 150).toInt = (gV τ 23 0 150).toInt := congrArg Int32.toInt (show (gV τ158 23 0 150) = (gV τ 23 0 150) from (show gV τ158 23 0 150 = (gV τ 23 0 150) from gV_put eτ158 (show gV τ148 23 0 150 = (gV τ 23 0 150) from gV_put eτ148 (show gV τ141 23 0 150 = (gV τ 23 0 150) from gV_put eτ141 rfl))))
                    have q169 : (gV τ158 23 0 152).toInt = (gV τ 23 0 152).toInt := congrArg Int32.toInt (show (gV τ158 23 0 152) = (gV τ 23 0 152) from (show gV τ158 23 0 152 = (gV τ 23 0 152) from gV_put eτ158 (show gV τ148 23 0 152 = (gV τ 23 0 152) from gV_put eτ148 (show gV τ141 23 0 152 = (gV τ 23 0 152) from gV_put eτ141 rfl))))
                    have q170 : (gV τ158 23 0 188).toInt = (gV τ 23 0 188).toInt := congrArg Int32.toInt (show (gV τ158 23 0 188) = (gV τ 23 0 188) from (show gV τ158 23 0 188 = (gV τ 23 0 188) from gV_put eτ158 (show gV τ148 23 0 188 = (gV τ 23 0 188) from gV_put eτ148 (show gV τ141 23 0 188 = (gV τ 23 0 188) from gV_put eτ141 rfl))))
                    have q171 : (gV τ158 23 0 2).toInt = (gV τ 23 0 2).toInt := congrArg Int32.toInt (show (gV τ158 23 0 2) = (gV τ 23 0 2) from (show gV τ158 23 0 2 = (gV τ 23 0 2) from gV_put eτ158 (show gV τ148 23 0 2 = (gV τ 23 0 2) from gV_put eτ148 (show gV τ141 23 0 2 = (gV τ 23 0 2) from gV_put eτ141 rfl))))
                    have q172 : (gV τ158 22 0 16).toInt = 1 := (congrArg Int32.toInt (show (gV τ158 22 0 16) = 1 from (show gV τ158 22 0 16 = 1 from gV_put eτ158 (show gV τ148 22 0 16 = 1 from gV_put eτ148 (show gV τ141 22 0 16 = 1 from gV_put eτ141 (gV_self _ _ _ _ _)))))).trans kt_1
                    have q173 : (gV τ158 22 0 6).toInt = 0 := (congrArg Int32.toInt (show (gV τ158 22 0 6) = 0 from (show gV τ158 22 0 6 = 0 from gV_put eτ158 (show gV τ148 22 0 6 = 0 from gV_put eτ148 (gV_self _ _ _ _ _))))).trans kt_0
                    have q174 : (gV τ158 22 0 7).toInt = 1 := (congrArg Int32.toInt (show (gV τ158 22 0 7) = 1 from (show gV τ158 22 0 7 = 1 from gV_put eτ158 (gV_self _ _ _ _ _)))).trans kt_1
                    have b175 : IV (gV τ 22 0 12) 0 400 := ⟨by have q1 := (iv_any (gV τ 22 0 12)); omega, by have q1 := (iv_any (gV τ 22 0 12)); omega⟩
                    refine m_isub C dX12_tower_160 ?_
                    refine m_topi (fun x176 ex176 => ?_)
                    have tx176 : x176.toInt = -1000100 - (gV τ 22 0 12).toInt := by rw [ex176, ti_subv kc_m1000100 b175 (by decide), kt_m1000100]
                    have b177 : IV x176 (-1000500) (-1000100) := by rw [ex176]; exact iv_sub kc_m1000100 b175 (by decide)
                    exact m_iret C hr hlk (by decide) (by decide) dX12_tower_161 ⟨_, rfl, i159, f160, (iv_wk b177 (by decide)), (Or.inl ⟨by omega, by omega, by omega, by omega⟩)⟩
            · have f178 : x127.toInt = 0 := by
                have q : _ := c132
                simp only [ti_nle, ti_nlt, ti_le, ti_lt, ti_eq, ti_ne, Classical.not_not, kt_0] at q
                omega
              have b179 : IV x127 0 0 := ⟨by have q1 := b128; have q2 := kc_0; omega, by have q1 := b128; have q2 := kc_0; omega⟩
              refine m_aload_n C dX12_tower_100 rfl rfl ?_
              refine m_callV (n := 0) (ci := 11) (st := []) C (c_X12_takeStoneE l G τ T N q75 ((gV τ 23 0 188).toInt.toNat : Nat)  iτ v_T (by omega) (by omega) (by omega) nb (by omega)) (by decide) (by decide) rfl rfl rfl q5_33 q5_30 q5_32 q0_34 q1_7 (by decide +kernel) rfl (by decide) (by decide) rfl (Nat.le_of_ble_eq_true rfl) dX12_tower_101 ?_
              rintro _ τ180 ⟨rfl, i181, f182, h186⟩
              have g185 : Fr MS_X12_towerT AS_X12_towerT σ τ180 := Fr.call (fτ) f182 (by decide)
              have v187 : TpM τ180 T N := v_T.fr f182 (by decide) (by decide) (by simp) (by decide)
              have u188 : IV (gV τ180 22 0 11) 0 400 := i181.1 22 0 11
              have u189 : IV (gV τ180 23 0 152) 0 7 := i181.1 23 0 152
              have u190 : IV (gV τ180 23 0 188) 0 4 := i181.1 23 0 188
              have u191 : IV (gV τ180 23 0 2) 0 7 := i181.1 23 0 2
              have q192 : (gV τ180 22 0 6).toInt = (gV τ 22 0 6).toInt := congrArg Int32.toInt (show (gV τ180 22 0 6) = (gV τ 22 0 6) from (show gV τ180 22 0 6 = (gV τ 22 0 6) from (f182.1 22 0 (6) (by decide) (by decide)).trans rfl))
              have q193 : (gV τ180 22 0 7).toInt = (gV τ 22 0 7).toInt := congrArg Int32.toInt (show (gV τ180 22 0 7) = (gV τ 22 0 7) from (show gV τ180 22 0 7 = (gV τ 22 0 7) from (f182.1 22 0 (7) (by decide) (by decide)).trans rfl))
              rcases h186 with ⟨h186_0, h186_1, h186_2, h186_3, h186_4, h186_5, h186_6⟩ | ⟨h186_0, h186_1, h186_2, h186_3, h186_4, h186_5, h186_6, h186_7⟩
              · skip
                have q194 := nP.bad (by omega) ⟨by omega, by omega⟩ h186_0
                have b195 : IV (gV τ180 22 0 16) 1 3 := ⟨by omega, by omega⟩
                show MW p l e _ s m args below meth c _ 2 G 0 0 104 [some (.ref (G.1 22 0)), none] [] τ180
                refine m_goto (tgt := 75) C dX12_tower_104 (by decide) ?_
                exact ih75 τ180 (tE T N (tE T N (tE T N (tE T N q75)))) i181 g185 v187 (Or.inr ⟨by omega, by omega, by omega, by omega, by omega, by omega, by omega, by omega⟩) (by have q := hm75; omega)
              · skip
                have b196 : IV (gV τ180 22 0 16) 0 0 := ⟨by omega, by omega⟩
                show MW p l e _ s m args below meth c _ 2 G 0 0 104 [some (.ref (G.1 22 0)), none] [] τ180
                refine m_goto (tgt := 75) C dX12_tower_104 (by decide) ?_
                exact ih75 τ180 (tE T N (tE T N (tE T N (tE T N q75)))) i181 g185 v187 (Or.inl ⟨by omega, by omega, by omega, h186_6, h186_7, (by rw [show (gV τ180 23 0 152).toInt.toNat = (gV τ 23 0 152).toInt.toNat by omega, show (gV τ180 23 0 188).toInt.toNat = (gV τ 23 0 188).toInt.toNat + 1 by omega]; exact nP.go (by omega) ⟨by omega, by omega⟩ (by omega))⟩) (by have q := hm75; omega)
      · skip
        have b197 : IV (gV τ 22 0 16) 1 3 := ⟨by omega, by omega⟩
        refine m_aload_n C dX12_tower_75 rfl rfl ?_
        refine g_22_16 C q4_132 dX12_tower_76 ?_
        refine m_eqs (w := (gV τ 22 0 16)) rfl ?_
        refine m_if_ne (tgt := 107) C dX12_tower_79 (by decide) (fun c198 => ?_) (fun c198 => ?_)
        · have f199 : (gV τ 22 0 16).toInt ≠ 0 := by
            have q : _ := c198
            simp only [ti_nle, ti_nlt, ti_le, ti_lt, ti_eq, ti_ne, Classical.not_not, kt_0] at q
            omega
          refine m_aload_n C dX12_tower_107 rfl rfl ?_
          refine m_aload_n C dX12_tower_108 rfl rfl ?_
          refine g_22_16 C q4_132 dX12_tower_109 ?_
          refine m_eqs (w := (gV τ 22 0 16)) rfl ?_
          refine m_if_ne (tgt := 127) C dX12_tower_112 (by decide) (fun c200 => ?_) (fun c200 => ?_)
          · have f201 : (gV τ 22 0 16).toInt ≠ 0 := by
              have q : _ := c200
              simp only [ti_nle, ti_nlt, ti_le, ti_lt, ti_eq, ti_ne, Classical.not_not, kt_0] at q
              omega
            refine m_aload_n C dX12_tower_127 rfl rfl ?_
            refine g_22_16 C q4_132 dX12_tower_128 ?_
            refine m_eqs (w := (gV τ 22 0 16)) rfl ?_
            refine p_22_16 C q4_132 dX12_tower_131 ?_
            refine m_tops (fun τ202 eτ202 => ?_)
            have i203 : Inv τ202 := eτ202 ▸ Inv.putF iτ (by decide) rfl
            have f204 : Fr MS_X12_towerT AS_X12_towerT σ τ202 := eτ202 ▸ Fr.put (fτ) (Or.inl (by decide))
            have v205 : TpM τ202 T N := v_T.put eτ202 (Or.inr (by decide)) (by decide)
            have v206 : τ202.2.2.1 = τ.2.2.1 := by rw [eτ202]; rfl
            refine m_aload_n C dX12_tower_134 rfl rfl ?_
            refine m_iconst (v := 0) C dX12_tower_135 (by decide) ?_
            refine p_22_6 C q4_122 dX12_tower_136 ?_
            refine m_tops (fun τ207 eτ207 => ?_)
            have i208 : Inv τ207 := eτ207 ▸ Inv.put i203 (by decide) (iv_wk kc_0 (by decide))
            have f209 : Fr MS_X12_towerT AS_X12_towerT σ τ207 := eτ207 ▸ Fr.put (f204) (Or.inl (by decide))
            have v211 : τ207.2.2.1 = τ.2.2.1 := by rw [eτ207]; exact v206
            refine m_aload_n C dX12_tower_139 rfl rfl ?_
            refine g_22_16 C q4_132 dX12_tower_140 ?_
            refine m_eqs (w := (gV τ 22 0 16)) (show gV τ207 22 0 16 = (gV τ 22 0 16) from gV_put eτ207 (show gV τ202 22 0 16 = (gV τ 22 0 16) from gV_put eτ202 (gV_self _ _ _ _ _))) ?_
            refine m_if_eq (tgt := 162) C dX12_tower_143 (by decide) (fun c212 => ?_) (fun c212 => ?_)
            · exfalso
              have q : _ := c212
              simp only [ti_nle, ti_nlt, ti_le, ti_lt, ti_eq, ti_ne, Classical.not_not, kt_0] at q
              have q1 := b197; have q2 := kc_0; omega
            · have f214 : (gV τ 22 0 16).toInt ≠ 0 := by
                have q : _ := c212
                simp only [ti_nle, ti_nlt, ti_le, ti_lt, ti_eq, ti_ne, Classical.not_not, kt_0] at q
                omega
              refine m_aload_n C dX12_tower_146 rfl rfl ?_
              refine m_aload_n C dX12_tower_147 rfl rfl ?_
              refine g_22_16 C q4_132 dX12_tower_148 ?_
              refine m_eqs (w := (gV τ 22 0 16)) (show gV τ207 22 0 16 = (gV τ 22 0 16) from gV_put eτ207 (show gV τ202 22 0 16 = (gV τ 22 0 16) from gV_put eτ202 (gV_self _ _ _ _ _))) ?_
              refine p_22_7 C q4_123 dX12_tower_151 ?_
              refine m_tops (fun τ215 eτ215 => ?_)
              have i216 : Inv τ215 := eτ215 ▸ Inv.putF i208 (by decide) rfl
              have f217 : Fr MS_X12_towerT AS_X12_towerT σ τ215 := eτ215 ▸ Fr.put (f209) (Or.inl (by decide))
              have v218 : τ215.2.2.1 = τ.2.2.1 := by rw [eτ215]; exact v211
              refine m_ldc (v := (-1000100)) C dX12_tower_154 q5_34 ?_
              refine m_aload_n C dX12_tower_156 rfl rfl ?_
              refine g_22_12 C q4_128 dX12_tower_157 ?_
              refine m_eqs (w := (gV τ 22 0 12)) (show gV τ215 22 0 12 = (gV τ 22 0 12) from gV_put eτ215 (show gV τ207 22 0 12 = (gV τ 22 0 12) from gV_put eτ207 (show gV τ202 22 0 12 = (gV τ 22 0 12) from gV_put eτ202 rfl))) ?_
              have q219 : (gV τ215 22 0 11).toInt = (gV τ 22 0 11).toInt := congrArg Int32.toInt (show (gV τ215 22 0 11) = (gV τ 22 0 11) from (show gV τ215 22 0 11 = (gV τ 22 0 11) from gV_put eτ215 (show gV τ207 22 0 11 = (gV τ 22 0 11) from gV_put eτ207 (show gV τ202 22 0 11 = (gV τ 22 0 11) from gV_put eτ202 rfl))))
              have q220 : (gV τ215 22 0 12).toInt = (gV τ 22 0 12).toInt := congrArg Int32.toInt (show (gV τ215 22 0 12) = (gV τ 22 0 12) from (show gV τ215 22 0 12 = (gV τ 22 0 12) from gV_put eτ215 (show gV τ207 22 0 12 = (gV τ 22 0 12) from gV_put eτ207 (show gV τ202 22 0 12 = (gV τ 22 0 12) from gV_put eτ202 rfl))))
              have q221 : (gV τ215 22 0 13).toInt = (gV τ 22 0 13).toInt := congrArg Int32.toInt (show (gV τ215 22 0 13) = (gV τ 22 0 13) from (show gV τ215 22 0 13 = (gV τ 22 0 13) from gV_put eτ215 (show gV τ207 22 0 13 = (gV τ 22 0 13) from gV_put eτ207 (show gV τ202 22 0 13 = (gV τ 22 0 13) from gV_put eτ202 rfl))))
              have q222 : (gV τ215 22 0 15).toInt = (gV τ 22 0 15).toInt := congrArg Int32.toInt (show (gV τ215 22 0 15) = (gV τ 22 0 15) from (show gV τ215 22 0 15 = (gV τ 22 0 15) from gV_put eτ215 (show gV τ207 22 0 15 = (gV τ 22 0 15) from gV_put eτ207 (show gV τ202 22 0 15 = (gV τ 22 0 15) from gV_put eτ202 rfl))))
              have q223 : (gV τ215 23 0 150).toInt = (gV τ 23 0 150).toInt := congrArg Int32.toInt (show (gV τ215 23 0 150) = (gV τ 23 0 150) from (show gV τ215 23 0 150 = (gV τ 23 0 150) from gV_put eτ215 (show gV τ207 23 0 150 = (gV τ 23 0 150) from gV_put eτ207 (show gV τ202 23 0 150 = (gV τ 23 0 150) from gV_put eτ202 rfl))))
              have q224 : (gV τ215 23 0 152).toInt = (gV τ 23 0 152).toInt := congrArg Int32.toInt (show (gV τ215 23 0 152) = (gV τ 23 0 152) from (show gV τ215 23 0 152 = (gV τ 23 0 152) from gV_put eτ215 (show gV τ207 23 0 152 = (gV τ 23 0 152) from gV_put eτ207 (show gV τ202 23 0 152 = (gV τ 23 0 152) from gV_put eτ202 rfl))))
              have q225 : (gV τ215 23 0 188).toInt = (gV τ 23 0 188).toInt := congrArg Int32.toInt (show (gV τ215 23 0 188) = (gV τ 23 0 188) from (show gV τ215 23 0 188 = (gV τ 23 0 188) from gV_put eτ215 (show gV τ207 23 0 188 = (gV τ 23 0 188) from gV_put eτ207 (show gV τ202 23 0 188 = (gV τ 23 0 188) from gV_put eτ202 rfl))))
              have q226 : (gV τ215 23 0 2).toInt = (gV τ 23 0 2).toInt := congrArg Int32.toInt (show (gV τ215 23 0 2) = (gV τ 23 0 2) from (show gV τ215 23 0 2 = (gV τ 23 0 2) from gV_put eτ215 (show gV τ207 23 0 2 = (gV τ 23 0 2) from gV_put eτ207 (show gV τ202 23 0 2 = (gV τ 23 0 2) from gV_put eτ202 rfl))))
              have q227 : (gV τ215 22 0 16).toInt = (gV τ 22 0 16).toInt := congrArg Int32.toInt (show (gV τ215 22 0 16) = (gV τ 22 0 16) from (show gV τ215 22 0 16 = (gV τ 22 0 16) from gV_put eτ215 (show gV τ207 22 0 16 = (gV τ 22 0 16) from gV_put eτ207 (show gV τ202 22 0 16 = (gV τ 22 0 16) from gV_put eτ202 (gV_self _ _ _ _ _)))))
              have q228 : (gV τ215 22 0 6).toInt = 0 := (congrArg Int32.toInt (show (gV τ215 22 0 6) = 0 from (show gV τ215 22 0 6 = 0 from gV_put eτ215 (show gV τ207 22 0 6 = 0 from gV_put eτ207 (gV_self _ _ _ _ _))))).trans kt_0
              have q229 : (gV τ215 22 0 7).toInt = (gV τ 22 0 16).toInt := congrArg Int32.toInt (show (gV τ215 22 0 7) = (gV τ 22 0 16) from (show gV τ215 22 0 7 = (gV τ 22 0 16) from gV_put eτ215 (gV_self _ _ _ _ _)))
              have b230 : IV (gV τ 22 0 12) 0 400 := ⟨by have q1 := (iv_any (gV τ 22 0 12)); omega, by have q1 := (iv_any (gV τ 22 0 12)); omega⟩
              refine m_isub C dX12_tower_160 ?_
              refine m_topi (fun x231 ex231 => ?_)
              have tx231 : x231.toInt = -1000100 - (gV τ 22 0 12).toInt := by rw [ex231, ti_subv kc_m1000100 b230 (by decide), kt_m1000100]
              have b232 : IV x231 (-1000500) (-1000100) := by rw [ex231]; exact iv_sub kc_m1000100 b230 (by decide)
              exact m_iret C hr hlk (by decide) (by decide) dX12_tower_161 ⟨_, rfl, i216, f217, (iv_wk b232 (by decide)), (Or.inl ⟨by omega, by omega, by omega, by omega⟩)⟩
          · exfalso
            have q : _ := c200
            simp only [ti_nle, ti_nlt, ti_le, ti_lt, ti_eq, ti_ne, Classical.not_not, kt_0] at q
            have q1 := b197; have q2 := kc_0; omega
        · exfalso
          have q : _ := c198
          simp only [ti_nle, ti_nlt, ti_le, ti_lt, ti_eq, ti_ne, Classical.not_not, kt_0] at q
          have q1 := b197; have q2 := kc_0; omega
  have J43 : ∀ (n : Nat) (τ : Sg) (q43 : Nat), Inv τ → Fr MS_X12_towerT AS_X12_towerT σ τ → (TpM τ T N) → ((((gV τ 22 0 16).toInt = 0 ∧ ((gV τ 22 0 12).toInt = (tS T q43 : Int) ∧ (tK T N q43 ≠ 4 → (gV τ 22 0 11).toInt = (tE T N q43 : Int)) ∧ (gV τ 22 0 13).toInt = (tK T N q43 + 4) % 5 ∧ 0 ≤ tK T N q43 ∧ tK T N q43 ≤ 4 ∧ (tK T N q43 = 2 → (gV τ 22 0 15).toInt = tV T q43) ∧ (gV τ 22 0 12).toInt ≤ 400) ∧ (gV τ 22 0 11).toInt ≤ (gV τ 22 0 6).toInt ∧ (gV τ 23 0 150).toInt = tV T (tE T N 0) ∧ 4 ≤ (gV τ 23 0 150).toInt ∧ (gV τ 23 0 150).toInt ≤ 32 ∧ (gV τ 23 0 188).toInt = 0 ∧ Pb τ ∧ LW T N q43 τ.2.2.1 ∧ PI_ T N (gV τ 23 0 152).toInt.toNat q43) ∨ ((1 ≤ (gV τ 22 0 16).toInt ∧ (gV τ 22 0 16).toInt ≤ 3) ∧ outF T N = (gV τ 22 0 16).toInt ∧ ((gV τ 22 0 12).toInt = outP T N ∧ 0 ≤ outP T N ∧ (gV τ 22 0 12).toInt ≤ 400) ∧ (gV τ 22 0 11).toInt ≤ (gV τ 22 0 6).toInt ∧ 0 ≤ (gV τ 23 0 152).toInt ∧ (gV τ 23 0 152).toInt ≤ 7 ∧ 0 ≤ (gV τ 23 0 188).toInt ∧ (gV τ 23 0 188).toInt ≤ 4))) → (2 * (8 - (gV τ 23 0 152).toInt) + 1 - min 1 (max (gV τ 22 0 16).toInt (-(gV τ 22 0 16).toInt))).toNat < n → MW p l e { frames := 4, cells := 0, slots := 0, locals := 92 } s m args below meth c (MQ below (QP G (PI fun r τ => Inv τ ∧ Fr MS_X12_towerT AS_X12_towerT σ τ ∧ IV r (-1000500) 7 ∧ ((r.toInt = -1000100 - outP T N ∧ outF T N ≠ 0 ∧ (gV τ 22 0 7).toInt = outF T N ∧ (gV τ 22 0 6).toInt = 0) ∨ (r.toInt = outN T N ∧ outF T N = 0 ∧ (gV τ 22 0 7).toInt = (gV σ 22 0 7).toInt ∧ (gV τ 22 0 6).toInt = 0)))) args s 0 0 (aG G)) 2 G 0 0 43 [some (.ref (G.1 22 0)), none] [] τ := by
    intro n
    induction n with
    | zero => intro τ q43 iτ fτ v_T nR hm; exact absurd hm (Nat.not_lt_zero _)
    | succ n ih43 =>
      intro τ q43 iτ fτ v_T nR hm43
      have u235 : IV (gV τ 22 0 11) 0 400 := iτ.1 22 0 11
      have u236 : IV (gV τ 22 0 6) 0 400 := iτ.1 22 0 6
      have u237 : IV (gV τ 23 0 152) 0 7 := iτ.1 23 0 152
      have u238 : IV (gV τ 23 0 188) 0 4 := iτ.1 23 0 188
      have u239 : IV (gV τ 23 0 2) 0 7 := iτ.1 23 0 2
      have q240 : (gV τ 22 0 6).toInt = (N : Int) := v_T.1
      have q241 := v_T.2.1
      rcases nR with ⟨n0_, n1_, n2_, n3_, n4_, n5_, n6_, nb, nw, nP⟩ | ⟨n0_, n1_, n2_, n3_, n4_, n5_, n6_, n7_⟩
      · skip
        have b242 : IV (gV τ 22 0 16) 0 0 := ⟨by omega, by omega⟩
        refine m_aload_n C dX12_tower_43 rfl rfl ?_
        refine g_22_16 C q4_132 dX12_tower_44 ?_
        refine m_eqs (w := (gV τ 22 0 16)) rfl ?_
        refine m_if_ne (tgt := 75) C dX12_tower_47 (by decide) (fun c243 => ?_) (fun c243 => ?_)
        · exfalso
          have q : _ := c243
          simp only [ti_nle, ti_nlt, ti_le, ti_lt, ti_eq, ti_ne, Classical.not_not, kt_0] at q
          have q1 := b242; have q2 := kc_0; omega
        · have f245 : (gV τ 22 0 16).toInt = 0 := by
            have q : _ := c243
            simp only [ti_nle, ti_nlt, ti_le, ti_lt, ti_eq, ti_ne, Classical.not_not, kt_0] at q
            omega
          refine m_aload_n C dX12_tower_50 rfl rfl ?_
          refine g_22_13 C q4_129 dX12_tower_51 ?_
          refine m_eqs (w := (gV τ 22 0 13)) rfl ?_
          refine m_if_ne (tgt := 75) C dX12_tower_54 (by decide) (fun c246 => ?_) (fun c246 => ?_)
          · have f247 : (gV τ 22 0 13).toInt ≠ 0 := by
              have q : _ := c246
              simp only [ti_nle, ti_nlt, ti_le, ti_lt, ti_eq, ti_ne, Classical.not_not, kt_0] at q
              omega
            exact J75 ((2 * (5 - (gV τ 23 0 188).toInt) + 1 - min 1 (max (gV τ 22 0 16).toInt (-(gV τ 22 0 16).toInt))).toNat + 1) τ q43 iτ fτ v_T (Or.inl ⟨by omega, by omega, by omega, nb, nw, (by rw [show (gV τ 23 0 152).toInt.toNat = (gV τ 23 0 152).toInt.toNat by omega, show (gV τ 23 0 188).toInt.toNat = 0 by omega]; exact nP.no (by omega))⟩) (Nat.lt_succ_self _)
          · have f248 : (gV τ 22 0 13).toInt = 0 := by
              have q : _ := c246
              simp only [ti_nle, ti_nlt, ti_le, ti_lt, ti_eq, ti_ne, Classical.not_not, kt_0] at q
              omega
            have b249 : IV (gV τ 22 0 13) 0 0 := ⟨by have q1 := (iv_any (gV τ 22 0 13)); have q2 := kc_0; omega, by have q1 := (iv_any (gV τ 22 0 13)); have q2 := kc_0; omega⟩
            refine m_aload_n C dX12_tower_57 rfl rfl ?_
            refine g_22_14 C q4_130 dX12_tower_58 ?_
            refine m_topl (fun w250 ew250 => ?_)
            have q251 : tK T N q43 = 1 := by omega
            have q252 : (w250.toInt = 542723566 ↔ tW T N q43 1 = 1) := by rw [ew250]; exact LW.at1 nw q251
            refine m_ldc2 (v := 542723566) C dX12_tower_61 q5_16 ?_
            refine m_lcmp C dX12_tower_64 ?_
            refine m_topi (fun x253 ex253 => ?_)
            have b254 : IV x253 (-1) 1 := by rw [ex253]; rcases lgc w250 542723566 with q | q | q <;> omega
            have f255 := lgc w250 542723566
            rw [← ex253] at f255
            have f257 := kl_542723566
            refine m_if_ne (tgt := 75) C dX12_tower_65 (by decide) (fun c258 => ?_) (fun c258 => ?_)
            · have f259 : x253.toInt ≠ 0 := by
                have q : _ := c258
                simp only [ti_nle, ti_nlt, ti_le, ti_lt, ti_eq, ti_ne, Classical.not_not, kt_0] at q
                omega
              exact J75 ((2 * (5 - (gV τ 23 0 188).toInt) + 1 - min 1 (max (gV τ 22 0 16).toInt (-(gV τ 22 0 16).toInt))).toNat + 1) τ q43 iτ fτ v_T (Or.inl ⟨by omega, by omega, by omega, nb, nw, (by rw [show (gV τ 23 0 152).toInt.toNat = (gV τ 23 0 152).toInt.toNat by omega, show (gV τ 23 0 188).toInt.toNat = 0 by omega]; exact nP.no (by omega))⟩) (Nat.lt_succ_self _)
            · have f260 : x253.toInt = 0 := by
                have q : _ := c258
                simp only [ti_nle, ti_nlt, ti_le, ti_lt, ti_eq, ti_ne, Classical.not_not, kt_0] at q
                omega
              have b261 : IV x253 0 0 := ⟨by have q1 := b254; have q2 := kc_0; omega, by have q1 := b254; have q2 := kc_0; omega⟩
              refine m_aload_n C dX12_tower_68 rfl rfl ?_
              refine m_callV (n := 0) (ci := 11) (st := []) C (c_X12_takePersonE l G τ T N q43 (tV T (tE T N 0)) ((gV τ 23 0 152).toInt.toNat : Nat)  iτ v_T (by omega) (by omega) (by omega) nb (by omega)) (by decide) (by decide) rfl rfl rfl q5_20 q5_17 q5_19 q0_33 q1_7 (by decide +kernel) rfl (by decide) (by decide) rfl (Nat.le_of_ble_eq_true rfl) dX12_tower_69 ?_
              rintro _ τ262 ⟨rfl, i263, f264, h268⟩
              have g267 : Fr MS_X12_towerT AS_X12_towerT σ τ262 := Fr.call (fτ) f264 (by decide)
              have v269 : TpM τ262 T N := v_T.fr f264 (by decide) (by decide) (by simp) (by decide)
              have u270 : IV (gV τ262 22 0 11) 0 400 := i263.1 22 0 11
              have u271 : IV (gV τ262 23 0 152) 0 7 := i263.1 23 0 152
              have u272 : IV (gV τ262 23 0 188) 0 4 := i263.1 23 0 188
              have u273 : IV (gV τ262 23 0 2) 0 7 := i263.1 23 0 2
              have q274 : (gV τ262 22 0 6).toInt = (gV τ 22 0 6).toInt := congrArg Int32.toInt (show (gV τ262 22 0 6) = (gV τ 22 0 6) from (show gV τ262 22 0 6 = (gV τ 22 0 6) from (f264.1 22 0 (6) (by decide) (by decide)).trans rfl))
              have q275 : (gV τ262 22 0 7).toInt = (gV τ 22 0 7).toInt := congrArg Int32.toInt (show (gV τ262 22 0 7) = (gV τ 22 0 7) from (show gV τ262 22 0 7 = (gV τ 22 0 7) from (f264.1 22 0 (7) (by decide) (by decide)).trans rfl))
              rcases h268 with ⟨h268_0, h268_1, h268_2, h268_3, h268_4, h268_5⟩ | ⟨h268_0, h268_1, h268_2, h268_3, h268_4, h268_5, h268_6, h268_7⟩
              · skip
                have q276 := nP.bad (by omega) ⟨by omega, by omega⟩ h268_0
                have b277 : IV (gV τ262 22 0 16) 1 3 := ⟨by omega, by omega⟩
                show MW p l e _ s m args below meth c _ 2 G 0 0 72 [some (.ref (G.1 22 0)), none] [] τ262
                refine m_goto (tgt := 43) C dX12_tower_72 (by decide) ?_
                exact ih43 τ262 (tE T N (tE T N (tE T N (tE T N (tE T N (tE T N q43)))))) i263 g267 v269 (Or.inr ⟨by omega, by omega, by omega, by omega, by omega, by omega, by omega, by omega⟩) (by have q := hm43; omega)
              · skip
                have b278 : IV (gV τ262 22 0 16) 0 0 := ⟨by omega, by omega⟩
                show MW p l e _ s m args below meth c _ 2 G 0 0 72 [some (.ref (G.1 22 0)), none] [] τ262
                refine m_goto (tgt := 43) C dX12_tower_72 (by decide) ?_
                exact ih43 τ262 (tE T N (tE T N (tE T N (tE T N (tE T N (tE T N q43)))))) i263 g267 v269 (Or.inl ⟨by omega, by omega, by omega, by omega, by omega, by omega, by omega, h268_6, h268_7, (by rw [show (gV τ262 23 0 152).toInt.toNat = (gV τ 23 0 152).toInt.toNat + 1 by omega]; exact nP.go (by omega) ⟨by omega, by omega⟩ (by omega))⟩) (by have q := hm43; omega)
      · skip
        have b279 : IV (gV τ 22 0 16) 1 3 := ⟨by omega, by omega⟩
        refine m_aload_n C dX12_tower_43 rfl rfl ?_
        refine g_22_16 C q4_132 dX12_tower_44 ?_
        refine m_eqs (w := (gV τ 22 0 16)) rfl ?_
        refine m_if_ne (tgt := 75) C dX12_tower_47 (by decide) (fun c280 => ?_) (fun c280 => ?_)
        · have f281 : (gV τ 22 0 16).toInt ≠ 0 := by
            have q : _ := c280
            simp only [ti_nle, ti_nlt, ti_le, ti_lt, ti_eq, ti_ne, Classical.not_not, kt_0] at q
            omega
          exact J75 ((2 * (5 - (gV τ 23 0 188).toInt) + 1 - min 1 (max (gV τ 22 0 16).toInt (-(gV τ 22 0 16).toInt))).toNat + 1) τ q43 iτ fτ v_T (Or.inr ⟨by omega, by omega, by omega, by omega, by omega, by omega, by omega, by omega⟩) (Nat.lt_succ_self _)
        · exfalso
          have q : _ := c280
          simp only [ti_nle, ti_nlt, ti_le, ti_lt, ti_eq, ti_ne, Classical.not_not, kt_0] at q
          have q1 := b279; have q2 := kc_0; omega
  have J2 : ∀ (n : Nat) (τ : Sg) (y1 : Int32), Inv τ → Fr MS_X12_towerT AS_X12_towerT σ τ → IV y1 0 50 → (TpM τ T N) → ((3 ≤ y1.toInt → (gV τ 23 0 152).toInt = 0)) → ((39 ≤ y1.toInt → (gV τ 23 0 188).toInt = 0)) → (50 - y1.toInt).toNat < n → MW p l e { frames := 4, cells := 0, slots := 0, locals := 92 } s m args below meth c (MQ below (QP G (PI fun r τ => Inv τ ∧ Fr MS_X12_towerT AS_X12_towerT σ τ ∧ IV r (-1000500) 7 ∧ ((r.toInt = -1000100 - outP T N ∧ outF T N ≠ 0 ∧ (gV τ 22 0 7).toInt = outF T N ∧ (gV τ 22 0 6).toInt = 0) ∨ (r.toInt = outN T N ∧ outF T N = 0 ∧ (gV τ 22 0 7).toInt = (gV σ 22 0 7).toInt ∧ (gV τ 22 0 6).toInt = 0)))) args s 0 0 (aG G)) 2 G 0 0 2 [some (.ref (G.1 22 0)), some (.int y1)] [] τ := by
    intro n
    induction n with
    | zero => intro τ y1 iτ fτ b_y1 v_T nz nz2 hm; exact absurd hm (Nat.not_lt_zero _)
    | succ n ih2 =>
      intro τ y1 iτ fτ b_y1 v_T nz nz2 hm2
      have u283 : IV (gV τ 22 0 11) 0 400 := iτ.1 22 0 11
      have u284 : IV (gV τ 22 0 6) 0 400 := iτ.1 22 0 6
      have u285 : IV (gV τ 23 0 152) 0 7 := iτ.1 23 0 152
      have u286 : IV (gV τ 23 0 188) 0 4 := iτ.1 23 0 188
      have u287 : IV (gV τ 23 0 2) 0 7 := iτ.1 23 0 2
      have q288 : (gV τ 22 0 6).toInt = (N : Int) := v_T.1
      have q289 := v_T.2.1
      refine m_iload_n C dX12_tower_2 rfl rfl ?_
      refine m_bipush (v := 50) C dX12_tower_3 (by decide) ?_
      refine m_icmp_ge (tgt := 25) C dX12_tower_5 (by decide) (fun c290 => ?_) (fun c290 => ?_)
      · have f291 : 50 ≤ y1.toInt := by
          have q : _ := c290
          simp only [ti_nle, ti_nlt, ti_le, ti_lt, ti_eq, ti_ne, Classical.not_not, kt_50] at q
          omega
        have b292 : IV y1 50 50 := ⟨by have q1 := kc_50; have q2 := b_y1; omega, by have q1 := kc_50; have q2 := b_y1; omega⟩
        refine m_aload_n C dX12_tower_25 rfl rfl ?_
        refine m_iconst (v := 0) C dX12_tower_26 (by decide) ?_
        refine p_22_11 C q4_127 dX12_tower_27 ?_
        refine m_tops (fun τ293 eτ293 => ?_)
        have i294 : Inv τ293 := eτ293 ▸ Inv.put iτ (by decide) (iv_wk kc_0 (by decide))
        have f295 : Fr MS_X12_towerT AS_X12_towerT σ τ293 := eτ293 ▸ Fr.put (fτ) (Or.inl (by decide))
        have v296 : TpM τ293 T N := v_T.put eτ293 (Or.inr (by decide)) (by decide)
        have v297 : τ293.2.2.1 = τ.2.2.1 := by rw [eτ293]; rfl
        refine m_aload_n C dX12_tower_30 rfl rfl ?_
        refine m_iconst (v := 0) C dX12_tower_31 (by decide) ?_
        refine p_22_16 C q4_132 dX12_tower_32 ?_
        refine m_tops (fun τ298 eτ298 => ?_)
        have i299 : Inv τ298 := eτ298 ▸ Inv.putF i294 (by decide) rfl
        have f300 : Fr MS_X12_towerT AS_X12_towerT σ τ298 := eτ298 ▸ Fr.put (f295) (Or.inl (by decide))
        have v301 : TpM τ298 T N := v296.put eτ298 (Or.inr (by decide)) (by decide)
        have v302 : τ298.2.2.1 = τ.2.2.1 := by rw [eτ298]; exact v297
        refine m_aload_n C dX12_tower_35 rfl rfl ?_
        have q303 : (gV τ298 22 0 12).toInt = (gV τ 22 0 12).toInt := congrArg Int32.toInt (show (gV τ298 22 0 12) = (gV τ 22 0 12) from (show gV τ298 22 0 12 = (gV τ 22 0 12) from gV_put eτ298 (show gV τ293 22 0 12 = (gV τ 22 0 12) from gV_put eτ293 rfl)))
        have q304 : (gV τ298 22 0 13).toInt = (gV τ 22 0 13).toInt := congrArg Int32.toInt (show (gV τ298 22 0 13) = (gV τ 22 0 13) from (show gV τ298 22 0 13 = (gV τ 22 0 13) from gV_put eτ298 (show gV τ293 22 0 13 = (gV τ 22 0 13) from gV_put eτ293 rfl)))
        have q305 : (gV τ298 22 0 15).toInt = (gV τ 22 0 15).toInt := congrArg Int32.toInt (show (gV τ298 22 0 15) = (gV τ 22 0 15) from (show gV τ298 22 0 15 = (gV τ 22 0 15) from gV_put eτ298 (show gV τ293 22 0 15 = (gV τ 22 0 15) from gV_put eτ293 rfl)))
        have q306 : (gV τ298 22 0 6).toInt = (gV τ 22 0 6).toInt := congrArg Int32.toInt (show (gV τ298 22 0 6) = (gV τ 22 0 6) from (show gV τ298 22 0 6 = (gV τ 22 0 6) from gV_put eτ298 (show gV τ293 22 0 6 = (gV τ 22 0 6) from gV_put eτ293 rfl)))
        have q307 : (gV τ298 22 0 7).toInt = (gV τ 22 0 7).toInt := congrArg Int32.toInt (show (gV τ298 22 0 7) = (gV τ 22 0 7) from (show gV τ298 22 0 7 = (gV τ 22 0 7) from gV_put eτ298 (show gV τ293 22 0 7 = (gV τ 22 0 7) from gV_put eτ293 rfl)))
        have q308 : (gV τ298 23 0 150).toInt = (gV τ 23 0 150).toInt := congrArg Int32.toInt (show (gV τ298 23 0 150) = (gV τ 23 0 150) from (show gV τ298 23 0 150 = (gV τ 23 0 150) from gV_put eτ298 (show gV τ293 23 0 150 = (gV τ 23 0 150) from gV_put eτ293 rfl)))
        have q309 : (gV τ298 23 0 152).toInt = (gV τ 23 0 152).toInt := congrArg Int32.toInt (show (gV τ298 23 0 152) = (gV τ 23 0 152) from (show gV τ298 23 0 152 = (gV τ 23 0 152) from gV_put eτ298 (show gV τ293 23 0 152 = (gV τ 23 0 152) from gV_put eτ293 rfl)))
        have q310 : (gV τ298 23 0 188).toInt = (gV τ 23 0 188).toInt := congrArg Int32.toInt (show (gV τ298 23 0 188) = (gV τ 23 0 188) from (show gV τ298 23 0 188 = (gV τ 23 0 188) from gV_put eτ298 (show gV τ293 23 0 188 = (gV τ 23 0 188) from gV_put eτ293 rfl)))
        have q311 : (gV τ298 23 0 2).toInt = (gV τ 23 0 2).toInt := congrArg Int32.toInt (show (gV τ298 23 0 2) = (gV τ 23 0 2) from (show gV τ298 23 0 2 = (gV τ 23 0 2) from gV_put eτ298 (show gV τ293 23 0 2 = (gV τ 23 0 2) from gV_put eτ293 rfl)))
        have q312 : (gV τ298 22 0 11).toInt = 0 := (congrArg Int32.toInt (show (gV τ298 22 0 11) = 0 from (show gV τ298 22 0 11 = 0 from gV_put eτ298 (show gV τ293 22 0 11 = 0 from gV_put eτ293 (gV_self _ _ _ _ _))))).trans kt_0
        have q313 : (gV τ298 22 0 16).toInt = 0 := (congrArg Int32.toInt (show (gV τ298 22 0 16) = 0 from (show gV τ298 22 0 16 = 0 from gV_put eτ298 (gV_self _ _ _ _ _)))).trans kt_0
        refine m_callV (n := 0) (ci := 11) (st := []) C (c_X12_nextE l G τ298 T N 0  i299 v301 (by omega)) (by decide) (by decide) rfl rfl rfl q4_231 q4_228 q4_230 q0_28 q1_7 (by decide +kernel) rfl (by decide) (by decide) rfl (Nat.le_of_ble_eq_true rfl) dX12_tower_36 ?_
        rintro _ τ314 ⟨rfl, i315, f316, h320⟩
        have g319 : Fr MS_X12_towerT AS_X12_towerT σ τ314 := Fr.call (f300) f316 (by decide)
        have v321 : TpM τ314 T N := v301.fr f316 (by decide) (by decide) (by simp) (by decide)
        obtain ⟨h322, h324, v323⟩ := h320
        have u325 : IV (gV τ314 22 0 11) 0 400 := i315.1 22 0 11
        have q326 : (gV τ314 22 0 6).toInt = (gV τ 22 0 6).toInt := congrArg Int32.toInt (show (gV τ314 22 0 6) = (gV τ 22 0 6) from (show gV τ314 22 0 6 = (gV τ 22 0 6) from (f316.1 22 0 (6) (by decide) (by decide)).trans (show gV τ298 22 0 6 = (gV τ 22 0 6) from gV_put eτ298 (show gV τ293 22 0 6 = (gV τ 22 0 6) from gV_put eτ293 rfl))))
        have q327 : (gV τ314 22 0 7).toInt = (gV τ 22 0 7).toInt := congrArg Int32.toInt (show (gV τ314 22 0 7) = (gV τ 22 0 7) from (show gV τ314 22 0 7 = (gV τ 22 0 7) from (f316.1 22 0 (7) (by decide) (by decide)).trans (show gV τ298 22 0 7 = (gV τ 22 0 7) from gV_put eτ298 (show gV τ293 22 0 7 = (gV τ 22 0 7) from gV_put eτ293 rfl))))
        have q328 : (gV τ314 23 0 150).toInt = (gV τ 23 0 150).toInt := congrArg Int32.toInt (show (gV τ314 23 0 150) = (gV τ 23 0 150) from (show gV τ314 23 0 150 = (gV τ 23 0 150) from (f316.1 23 0 (150) (by decide) (by decide)).trans (show gV τ298 23 0 150 = (gV τ 23 0 150) from gV_put eτ298 (show gV τ293 23 0 150 = (gV τ 23 0 150) from gV_put eτ293 rfl))))
        have q329 : (gV τ314 23 0 152).toInt = (gV τ 23 0 152).toInt := congrArg Int32.toInt (show (gV τ314 23 0 152) = (gV τ 23 0 152) from (show gV τ314 23 0 152 = (gV τ 23 0 152) from (f316.1 23 0 (152) (by decide) (by decide)).trans (show gV τ298 23 0 152 = (gV τ 23 0 152) from gV_put eτ298 (show gV τ293 23 0 152 = (gV τ 23 0 152) from gV_put eτ293 rfl))))
        have q330 : (gV τ314 23 0 188).toInt = (gV τ 23 0 188).toInt := congrArg Int32.toInt (show (gV τ314 23 0 188) = (gV τ 23 0 188) from (show gV τ314 23 0 188 = (gV τ 23 0 188) from (f316.1 23 0 (188) (by decide) (by decide)).trans (show gV τ298 23 0 188 = (gV τ 23 0 188) from gV_put eτ298 (show gV τ293 23 0 188 = (gV τ 23 0 188) from gV_put eτ293 rfl))))
        have q331 : (gV τ314 23 0 2).toInt = (gV τ 23 0 2).toInt := congrArg Int32.toInt (show (gV τ314 23 0 2) = (gV τ 23 0 2) from (show gV τ314 23 0 2 = (gV τ 23 0 2) from (f316.1 23 0 (2) (by decide) (by decide)).trans (show gV τ298 23 0 2 = (gV τ 23 0 2) from gV_put eτ298 (show gV τ293 23 0 2 = (gV τ 23 0 2) from gV_put eτ293 rfl))))
        have q332 : (gV τ314 22 0 16).toInt = 0 := (congrArg Int32.toInt (show (gV τ314 22 0 16) = 0 from (show gV τ314 22 0 16 = 0 from (f316.1 22 0 (16) (by decide) (by decide)).trans (show gV τ298 22 0 16 = 0 from gV_put eτ298 (gV_self _ _ _ _ _))))).trans kt_0
        show MW p l e _ s m args below meth c _ 2 G 0 0 39 [some (.ref (G.1 22 0)), some (.int y1)] [] τ314
        refine m_aload_n C dX12_tower_39 rfl rfl ?_
        refine m_callV (n := 0) (ci := 11) (st := []) C (c_X12_takeLawE l G τ314 T N 0  i315 v321 (by omega) (by omega) (by omega) v323) (by decide) (by decide) rfl rfl rfl q5_2 q4_239 q5_1 q0_29 q1_7 (by decide +kernel) rfl (by decide) (by decide) rfl (Nat.le_of_ble_eq_true rfl) dX12_tower_40 ?_
        rintro _ τ333 ⟨rfl, i334, f335, h339⟩
        have g338 : Fr MS_X12_towerT AS_X12_towerT σ τ333 := Fr.call (g319) f335 (by decide)
        have v340 : TpM τ333 T N := v321.fr f335 (by decide) (by decide) (by simp) (by decide)
        have u341 : IV (gV τ333 22 0 11) 0 400 := i334.1 22 0 11
        have u342 : IV (gV τ333 23 0 152) 0 7 := i334.1 23 0 152
        have u343 : IV (gV τ333 23 0 188) 0 4 := i334.1 23 0 188
        have u344 : IV (gV τ333 23 0 2) 0 7 := i334.1 23 0 2
        have q345 : (gV τ333 22 0 6).toInt = (gV τ 22 0 6).toInt := congrArg Int32.toInt (show (gV τ333 22 0 6) = (gV τ 22 0 6) from (show gV τ333 22 0 6 = (gV τ 22 0 6) from (f335.1 22 0 (6) (by decide) (by decide)).trans (show gV τ314 22 0 6 = (gV τ 22 0 6) from (f316.1 22 0 (6) (by decide) (by decide)).trans (show gV τ298 22 0 6 = (gV τ 22 0 6) from gV_put eτ298 (show gV τ293 22 0 6 = (gV τ 22 0 6) from gV_put eτ293 rfl)))))
        have q346 : (gV τ333 22 0 7).toInt = (gV τ 22 0 7).toInt := congrArg Int32.toInt (show (gV τ333 22 0 7) = (gV τ 22 0 7) from (show gV τ333 22 0 7 = (gV τ 22 0 7) from (f335.1 22 0 (7) (by decide) (by decide)).trans (show gV τ314 22 0 7 = (gV τ 22 0 7) from (f316.1 22 0 (7) (by decide) (by decide)).trans (show gV τ298 22 0 7 = (gV τ 22 0 7) from gV_put eτ298 (show gV τ293 22 0 7 = (gV τ 22 0 7) from gV_put eτ293 rfl)))))
        rcases h339 with ⟨h339_0, h339_1, h339_2, h339_3, h339_4⟩ | ⟨h339_0, h339_1, h339_2, h339_3, h339_4, h339_5, h339_6⟩
        · skip
          have q347 := out_law (T := T) (N := N) (by omega)
          have b348 : IV (gV τ333 22 0 16) 1 3 := ⟨by omega, by omega⟩
          show MW p l e _ s m args below meth c _ 2 G 0 0 43 [some (.ref (G.1 22 0)), some (.int y1)] [] τ333
          refine m_sub (L1 := [some (.ref (G.1 22 0)), none]) ⟨rfl, trivial⟩ ?_
          exact J43 ((2 * (8 - (gV τ333 23 0 152).toInt) + 1 - min 1 (max (gV τ333 22 0 16).toInt (-(gV τ333 22 0 16).toInt))).toNat + 1) τ333 (tE T N (tE T N (tE T N (tE T N 0)))) i334 g338 v340 (Or.inr ⟨by omega, by omega, by omega, by omega, by omega, by omega, by omega, by omega⟩) (Nat.lt_succ_self _)
        · skip
          have b349 : IV (gV τ333 22 0 16) 0 0 := ⟨by omega, by omega⟩
          have v350 : Pb τ333 := fun p _ hp => absurd hp (by omega)
          show MW p l e _ s m args below meth c _ 2 G 0 0 43 [some (.ref (G.1 22 0)), some (.int y1)] [] τ333
          refine m_sub (L1 := [some (.ref (G.1 22 0)), none]) ⟨rfl, trivial⟩ ?_
          exact J43 ((2 * (8 - (gV τ333 23 0 152).toInt) + 1 - min 1 (max (gV τ333 22 0 16).toInt (-(gV τ333 22 0 16).toInt))).toNat + 1) τ333 (tE T N (tE T N (tE T N (tE T N 0)))) i334 g338 v340 (Or.inl ⟨by omega, by omega, by omega, by omega, by omega, by omega, by omega, v350, h339_6, (by rw [show (gV τ333 23 0 152).toInt.toNat = 0 by omega]; exact PI_.start (by omega))⟩) (Nat.lt_succ_self _)
      · have f351 : y1.toInt < 50 := by
          have q : _ := c290
          simp only [ti_nle, ti_nlt, ti_le, ti_lt, ti_eq, ti_ne, Classical.not_not, kt_50] at q
          omega
        have b352 : IV y1 0 49 := ⟨by have q1 := b_y1; have q2 := kc_50; omega, by have q1 := b_y1; have q2 := kc_50; omega⟩
        refine m_aload_n C dX12_tower_8 rfl rfl ?_
        refine g_22_0 C q4_116 dX12_tower_9 ?_
        refine m_sipush (v := 150) C dX12_tower_12 (by decide) ?_
        refine m_iload_n C dX12_tower_15 rfl rfl ?_
        refine m_iadd C dX12_tower_16 ?_
        refine m_topi (fun x353 ex353 => ?_)
        have tx353 : x353.toInt = 150 + y1.toInt := by rw [ex353, ti_addv kc_150 b352 (by decide), kt_150]
        have b354 : IV x353 150 199 := by rw [ex353]; exact iv_add kc_150 b352 (by decide)
        refine m_iconst (v := 0) C dX12_tower_17 (by decide) ?_
        refine as_23 C b354 (by decide) rfl dX12_tower_18 ?_
        refine m_tops (fun τ355 eτ355 => ?_)
        have i356 : Inv τ355 := eτ355 ▸ Inv.putR0 iτ (by omega) kt_0
        have f357 : Fr MS_X12_towerT AS_X12_towerT σ τ355 := eτ355 ▸ Fr.put (fτ) (Or.inr (by decide))
        have v358 : TpM τ355 T N := v_T.put eτ355 (Or.inl (by decide)) (by decide)
        have v359 : τ355.2.2.1 = τ.2.2.1 := by rw [eτ355]; rfl
        obtain ⟨x360, ex360⟩ : ∃ y : Int32, y = y1 + 1 := ⟨_, rfl⟩
        have tx360 : x360.toInt = y1.toInt + 1 := by rw [ex360, ti_addv b352 kc_1 (by decide), kt_1]
        have b361 : IV x360 1 50 := by rw [ex360]; exact iv_add b352 kc_1 (by decide)
        refine m_iinc (v := x360) (L1 := [some (.ref (G.1 22 0)), some (.int x360)]) C dX12_tower_19 rfl (by rw [ex360]; rfl) (by decide) rfl rfl ?_
        refine m_goto (tgt := 2) C dX12_tower_22 (by decide) ?_
        have q362 : (gV τ355 22 0 11).toInt = (gV τ 22 0 11).toInt := congrArg Int32.toInt (show (gV τ355 22 0 11) = (gV τ 22 0 11) from (show gV τ355 22 0 11 = (gV τ 22 0 11) from gV_put eτ355 rfl))
        have q363 : (gV τ355 22 0 12).toInt = (gV τ 22 0 12).toInt := congrArg Int32.toInt (show (gV τ355 22 0 12) = (gV τ 22 0 12) from (show gV τ355 22 0 12 = (gV τ 22 0 12) from gV_put eτ355 rfl))
        have q364 : (gV τ355 22 0 13).toInt = (gV τ 22 0 13).toInt := congrArg Int32.toInt (show (gV τ355 22 0 13) = (gV τ 22 0 13) from (show gV τ355 22 0 13 = (gV τ 22 0 13) from gV_put eτ355 rfl))
        have q365 : (gV τ355 22 0 15).toInt = (gV τ 22 0 15).toInt := congrArg Int32.toInt (show (gV τ355 22 0 15) = (gV τ 22 0 15) from (show gV τ355 22 0 15 = (gV τ 22 0 15) from gV_put eτ355 rfl))
        have q366 : (gV τ355 22 0 16).toInt = (gV τ 22 0 16).toInt := congrArg Int32.toInt (show (gV τ355 22 0 16) = (gV τ 22 0 16) from (show gV τ355 22 0 16 = (gV τ 22 0 16) from gV_put eτ355 rfl))
        have q367 : (gV τ355 22 0 6).toInt = (gV τ 22 0 6).toInt := congrArg Int32.toInt (show (gV τ355 22 0 6) = (gV τ 22 0 6) from (show gV τ355 22 0 6 = (gV τ 22 0 6) from gV_put eτ355 rfl))
        have q368 : (gV τ355 22 0 7).toInt = (gV τ 22 0 7).toInt := congrArg Int32.toInt (show (gV τ355 22 0 7) = (gV τ 22 0 7) from (show gV τ355 22 0 7 = (gV τ 22 0 7) from gV_put eτ355 rfl))
        have q369 : (gV τ355 23 0 2).toInt = (gV τ 23 0 2).toInt := congrArg Int32.toInt (show (gV τ355 23 0 2) = (gV τ 23 0 2) from (show gV τ355 23 0 2 = (gV τ 23 0 2) from (gV_putn eτ355 (Or.inr (Or.inr (by omega)))).trans rfl))
        exact ih2 τ355 x360 i356 f357 (iv_wk b361 (by decide)) v358 (fun q => zero152 eτ355 kt_0 (by omega)) (fun q => zero188 eτ355 kt_0 (by omega)) (by have q := hm2; omega)
  have u370 : IV (gV σ 22 0 11) 0 400 := hI.1 22 0 11
  have u371 : IV (gV σ 22 0 6) 0 400 := hI.1 22 0 6
  have u372 : IV (gV σ 23 0 152) 0 7 := hI.1 23 0 152
  have u373 : IV (gV σ 23 0 188) 0 4 := hI.1 23 0 188
  have u374 : IV (gV σ 23 0 2) 0 7 := hI.1 23 0 2
  have q375 : (gV σ 22 0 6).toInt = (N : Int) := hT.1
  have q376 := hT.2.1
  refine m_iconst (v := 0) C dX12_tower_0 (by decide) ?_
  refine m_istore_n (L1 := [some (.ref (G.1 22 0)), some (.int 0)]) C dX12_tower_1 rfl (by decide) rfl rfl ?_
  exact J2 ((50 - (0 : Int32).toInt).toNat + 1) σ 0 hI Fr.rf (iv_wk kc_0 (by decide)) hT (by omega) (by omega) (Nat.lt_succ_self _)
