abbrev MS_X12_takeStoneS : List (Nat × Nat) := [(22, 11), (22, 12), (22, 13), (22, 15), (22, 16)]
abbrev AS_X12_takeStoneS : List Nat := [23]
set_option maxHeartbeats 4000000 in
set_option maxRecDepth 100000 in
theorem c_X12_takeStoneS (l : Launch) (G : Gt) (σ : Sg) (T : Nat → Int) (N : Nat) (i : Nat) (cc : Int) (pn : Nat) (P : Nat → Int × Int × Int) (hI : Inv σ) (hT : TpM σ T N) (hcur : CuM T N i σ) (hat : (gV σ 22 0 11).toInt ≤ (gV σ 22 0 6).toInt) (htk : tK T N i = 1) (hf0 : (gV σ 22 0 16).toInt = 0) (hPb : Pb σ) (hst : (gV σ 23 0 188).toInt = cc) (hpm : pn ≤ 7 ∧ PrM σ pn P) : Mc l G yX12_takeStone cX12_takeStone 2 none 3 69 0 0 [.ref (G.1 22 0)] σ (PV fun τ => Inv τ ∧ Fr MS_X12_takeStoneS AS_X12_takeStoneS σ τ ∧ (((stoF T N cc i ≠ 0 ∧ ((gV τ 22 0 16).toInt = stoF T N cc i ∧ 1 ≤ (gV τ 22 0 16).toInt ∧ (gV τ 22 0 16).toInt ≤ 3) ∧ ((gV τ 22 0 12).toInt = stoP T N cc i ∧ 0 ≤ (gV τ 22 0 12).toInt ∧ (gV τ 22 0 12).toInt ≤ 400) ∧ ((gV τ 23 0 188).toInt = cc ∨ (gV τ 23 0 188).toInt = cc + 1) ∧ ((gV τ 23 0 150).toInt = (gV σ 23 0 150).toInt ∧ (gV τ 23 0 152).toInt = (gV σ 23 0 152).toInt) ∧ (gV τ 22 0 11).toInt ≤ (gV τ 22 0 6).toInt ∧ Pb τ) ∨ (stoF T N cc i = 0 ∧ (gV τ 22 0 16).toInt = 0 ∧ (gV τ 23 0 188).toInt = cc + 1 ∧ ((gV τ 22 0 12).toInt = (tS T (tE T N (tE T N (tE T N (tE T N i)))) : Int) ∧ (tK T N (tE T N (tE T N (tE T N (tE T N i)))) ≠ 4 → (gV τ 22 0 11).toInt = (tE T N (tE T N (tE T N (tE T N (tE T N i)))) : Int)) ∧ (gV τ 22 0 13).toInt = (tK T N (tE T N (tE T N (tE T N (tE T N i)))) + 4) % 5 ∧ 0 ≤ tK T N (tE T N (tE T N (tE T N (tE T N i)))) ∧ tK T N (tE T N (tE T N (tE T N (tE T N i)))) ≤ 4 ∧ (tK T N (tE T N (tE T N (tE T N (tE T N i)))) = 2 → (gV τ 22 0 15).toInt = tV T (tE T N (tE T N (tE T N (tE T N i))))) ∧ (gV τ 22 0 12).toInt ≤ 400) ∧ ((gV τ 23 0 150).toInt = (gV σ 23 0 150).toInt ∧ (gV τ 23 0 152).toInt = (gV σ 23 0 152).toInt) ∧ (gV τ 22 0 11).toInt ≤ (gV τ 22 0 6).toInt ∧ Pb τ ∧ LW T N (tE T N (tE T N (tE T N (tE T N i)))) τ.2.2.1)) ∧ SFm σ τ ∧ PrM τ pn P)) := by
  refine Mc.of (L0 := [some (.ref (G.1 22 0)), none]) (by decide) (Nat.le_of_ble_eq_true rfl) rfl ?_
  intro p e s m args below meth c C hr hlk
  have C : Cx p s m args c cX12_takeStone 2 "LeanTowerModel" := C
  have k0 : (0 : Int32).toInt = 0 := by decide
  have k1 : (1 : Int32).toInt = 1 := by decide
  have u1 : IV (gV σ 22 0 11) 0 400 := hI.1 22 0 11
  have u2 : IV (gV σ 22 0 6) 0 400 := hI.1 22 0 6
  have u3 : IV (gV σ 23 0 152) 0 7 := hI.1 23 0 152
  have u4 : IV (gV σ 23 0 188) 0 4 := hI.1 23 0 188
  have q5 : (gV σ 22 0 6).toInt = (N : Int) := hT.1
  have q6 := hT.2.1
  have b7 : IV (gV σ 22 0 16) 0 0 := ⟨by omega, by omega⟩
  refine m_aload_n C dX12_takeStone_0 rfl rfl ?_
  refine g_22_0 C q4_116 dX12_takeStone_1 ?_
  refine m_sipush (v := 188) C dX12_takeStone_4 (by decide) ?_
  refine al_23 C kc_188 (by decide) kn_188 dX12_takeStone_7 ?_
  refine m_eqs (w := (gV σ 23 0 188)) rfl ?_
  refine m_istore_n (L1 := [some (.ref (G.1 22 0)), some (.int (gV σ 23 0 188))]) C dX12_takeStone_8 rfl (by decide) rfl rfl ?_
  refine m_iload_n C dX12_takeStone_9 rfl rfl ?_
  refine m_iconst (v := 4) C dX12_takeStone_10 (by decide) ?_
  refine m_icmp_ne (tgt := 20) C dX12_takeStone_11 (by decide) (fun c8 => ?_) (fun c8 => ?_)
  · have f9 : (gV σ 23 0 188).toInt ≠ 4 := by
      have q : _ := c8
      simp only [ti_nle, ti_nlt, ti_le, ti_lt, ti_eq, ti_ne, Classical.not_not, kt_4] at q
      omega
    have b10 : IV (gV σ 23 0 188) 0 3 := ⟨by have q1 := u4; have q2 := kc_4; omega, by have q1 := u4; have q2 := kc_4; omega⟩
    refine m_aload_n C dX12_takeStone_20 rfl rfl ?_
    refine m_callV (n := 0) (ci := 11) (st := []) C (c_X12_nextE l G σ T N (tE T N i)  hI hT (by have qc := hcur.1; omega)) (by decide) (by decide) rfl rfl rfl q4_231 q4_228 q4_230 q0_28 q1_7 (by decide +kernel) rfl (by decide) (by decide) rfl (Nat.le_of_ble_eq_true rfl) dX12_takeStone_21 ?_
    rintro _ τ11 ⟨rfl, i12, f13, h17⟩
    have g16 : Fr MS_X12_takeStoneS AS_X12_takeStoneS σ τ11 := Fr.call (Fr.rf) f13 (by decide)
    have v18 : Pb τ11 := hPb.call (fun k => f13.1 23 0 k (by simp) (by decide))
    have v19 : TpM τ11 T N := hT.fr f13 (by decide) (by decide) (by simp) (by decide)
    have v20 : SFm σ τ11 := SFm.rf.fr f13 (by simp) (by decide)
    have v21 : PrM τ11 pn P := hpm.2.call (fun k => f13.1 23 0 k (by simp) (by decide))
    obtain ⟨h22, h24, v23⟩ := h17
    have v25 : CuM T N (tE T N i) τ11 := ⟨h22, h24⟩
    clear h22
    have u26 : IV (gV τ11 22 0 11) 0 400 := i12.1 22 0 11
    have a27 : gV τ11 22 0 16 = (gV σ 22 0 16) := (show gV τ11 22 0 16 = (gV σ 22 0 16) from (f13.1 22 0 (16) (by decide) (by decide)).trans rfl)
    have q28 : (gV τ11 22 0 16).toInt = (gV σ 22 0 16).toInt := congrArg Int32.toInt a27
    have a29 : gV τ11 22 0 6 = (gV σ 22 0 6) := (show gV τ11 22 0 6 = (gV σ 22 0 6) from (f13.1 22 0 (6) (by decide) (by decide)).trans rfl)
    have q30 : (gV τ11 22 0 6).toInt = (gV σ 22 0 6).toInt := congrArg Int32.toInt a29
    have a31 : gV τ11 23 0 150 = (gV σ 23 0 150) := (show gV τ11 23 0 150 = (gV σ 23 0 150) from (f13.1 23 0 (150) (by decide) (by decide)).trans rfl)
    have q32 : (gV τ11 23 0 150).toInt = (gV σ 23 0 150).toInt := congrArg Int32.toInt a31
    have a33 : gV τ11 23 0 152 = (gV σ 23 0 152) := (show gV τ11 23 0 152 = (gV σ 23 0 152) from (f13.1 23 0 (152) (by decide) (by decide)).trans rfl)
    have q34 : (gV τ11 23 0 152).toInt = (gV σ 23 0 152).toInt := congrArg Int32.toInt a33
    have a35 : gV τ11 23 0 188 = (gV σ 23 0 188) := (show gV τ11 23 0 188 = (gV σ 23 0 188) from (f13.1 23 0 (188) (by decide) (by decide)).trans rfl)
    have q36 : (gV τ11 23 0 188).toInt = (gV σ 23 0 188).toInt := congrArg Int32.toInt a35
    show MW p l e _ s m args below meth c _ 2 G 0 0 24 [some (.ref (G.1 22 0)), some (.int (gV σ 23 0 188))] [] τ11
    refine m_aload_n C dX12_takeStone_24 rfl rfl ?_
    refine g_22_0 C q4_116 dX12_takeStone_25 ?_
    refine m_sipush (v := 189) C dX12_takeStone_28 (by decide) ?_
    refine m_iload_n C dX12_takeStone_31 rfl rfl ?_
    refine m_iadd C dX12_takeStone_32 ?_
    refine m_topi (fun x37 ex37 => ?_)
    have tx37 : x37.toInt = 189 + (gV σ 23 0 188).toInt := by rw [ex37, ti_addv kc_189 b10 (by decide), kt_189]
    have b38 : IV x37 189 192 := by rw [ex37]; exact iv_add kc_189 b10 (by decide)
    refine m_aload_n C dX12_takeStone_33 rfl rfl ?_
    refine m_iconst (v := 1) C dX12_takeStone_34 (by decide) ?_
    refine m_bipush (v := 20) C dX12_takeStone_35 (by decide) ?_
    refine m_iconst (v := 1) C dX12_takeStone_37 (by decide) ?_
    have q39 := kt_1
    have q40 := kt_20
    have q41 := kt_1
    refine m_callV (n := 3) (ci := 11) (st := [.int x37, .ref (G.1 23 0)]) C (c_X12_takeNumberE l G τ11 T N (tE T N i) (1) (20) (1) i12 v19 v25.1 (by omega)) (by decide) (by decide) rfl rfl rfl q5_7 q5_4 q5_6 q0_30 q1_7 (by decide +kernel) rfl (by decide) (by decide) rfl (Nat.le_of_ble_eq_true rfl) dX12_takeStone_38 ?_
    rintro _ τ42 ⟨x45, rfl, i43, f44, b46, h48⟩
    have g47 : Fr MS_X12_takeStoneS AS_X12_takeStoneS σ τ42 := Fr.call (g16) f44 (by decide)
    have v49 : Pb τ42 := v18.call (fun k => f44.1 23 0 k (by simp) (by decide))
    have v50 : TpM τ42 T N := v19.fr f44 (by decide) (by decide) (by simp) (by decide)
    have v51 : SFm σ τ42 := v20.fr f44 (by simp) (by decide)
    have v52 : PrM τ42 pn P := v21.call (fun k => f44.1 23 0 k (by simp) (by decide))
    have u53 : IV (gV τ42 22 0 11) 0 400 := i43.1 22 0 11
    have a54 : gV τ42 22 0 6 = (gV σ 22 0 6) := (show gV τ42 22 0 6 = (gV σ 22 0 6) from (f44.1 22 0 (6) (by decide) (by decide)).trans a29)
    have q55 : (gV τ42 22 0 6).toInt = (gV σ 22 0 6).toInt := congrArg Int32.toInt a54
    have a56 : gV τ42 23 0 150 = (gV σ 23 0 150) := (show gV τ42 23 0 150 = (gV σ 23 0 150) from (f44.1 23 0 (150) (by decide) (by decide)).trans a31)
    have q57 : (gV τ42 23 0 150).toInt = (gV σ 23 0 150).toInt := congrArg Int32.toInt a56
    have a58 : gV τ42 23 0 152 = (gV σ 23 0 152) := (show gV τ42 23 0 152 = (gV σ 23 0 152) from (f44.1 23 0 (152) (by decide) (by decide)).trans a33)
    have q59 : (gV τ42 23 0 152).toInt = (gV σ 23 0 152).toInt := congrArg Int32.toInt a58
    have a60 : gV τ42 23 0 188 = (gV σ 23 0 188) := (show gV τ42 23 0 188 = (gV σ 23 0 188) from (f44.1 23 0 (188) (by decide) (by decide)).trans a35)
    have q61 : (gV τ42 23 0 188).toInt = (gV σ 23 0 188).toInt := congrArg Int32.toInt a60
    rcases h48 with ⟨h48_0, h48_1, h48_2, h48_3, h48_4⟩ | ⟨h48_0, h48_1, h48_2, h48_3, h48_4, h48_5, h48_6⟩ | ⟨h48_0, h48_1, h48_2, h48_3, h48_4, h48_5, h48_6⟩
    · skip
      have b62 : IV x45 (-1) (-1) := ⟨by omega, by omega⟩
      have b63 : IV (gV τ42 22 0 16) 1 1 := ⟨by omega, by omega⟩
      show MW p l e _ s m args below meth c _ 2 G 0 0 41 [some (.ref (G.1 22 0)), some (.int (gV σ 23 0 188))] [.int x45, .int x37, .ref (G.1 23 0)] τ42
      refine as_23 C b38 (by decide) rfl dX12_takeStone_41 ?_
      refine m_tops (fun τ64 eτ64 => ?_)
      have i65 : Inv τ64 := eτ64 ▸ Inv.putRo i43 (by omega)
      have f66 : Fr MS_X12_takeStoneS AS_X12_takeStoneS σ τ64 := eτ64 ▸ Fr.put (g47) (Or.inr (by decide))
      have v67 : Pb τ64 := v49.put eτ64 (Or.inr (by omega))
      have v68 : TpM τ64 T N := v50.put eτ64 (Or.inl (by decide)) (by decide)
      have v69 : SFm σ τ64 := v51.put eτ64 (by omega)
      have v70 : PrM τ64 pn P := v52.put eτ64 (by omega) (by omega)
      refine m_aload_n C dX12_takeStone_42 rfl rfl ?_
      refine g_22_0 C q4_116 dX12_takeStone_43 ?_
      refine m_sipush (v := 193) C dX12_takeStone_46 (by decide) ?_
      refine m_iload_n C dX12_takeStone_49 rfl rfl ?_
      refine m_iadd C dX12_takeStone_50 ?_
      refine m_topi (fun x71 ex71 => ?_)
      have tx71 : x71.toInt = 193 + (gV σ 23 0 188).toInt := by rw [ex71, ti_addv kc_193 b10 (by decide), kt_193]
      have b72 : IV x71 193 196 := by rw [ex71]; exact iv_add kc_193 b10 (by decide)
      refine m_aload_n C dX12_takeStone_51 rfl rfl ?_
      refine g_22_16 C q4_132 dX12_takeStone_52 ?_
      refine m_eqs (w := (gV τ42 22 0 16)) (show gV τ64 22 0 16 = (gV τ42 22 0 16) from gV_put eτ64 rfl) ?_
      refine m_if_ne (tgt := 68) C dX12_takeStone_55 (by decide) (fun c73 => ?_) (fun c73 => ?_)
      · have f74 : (gV τ42 22 0 16).toInt ≠ 0 := by
          have q : _ := c73
          simp only [ti_nle, ti_nlt, ti_le, ti_lt, ti_eq, ti_ne, Classical.not_not, kt_0] at q
          omega
        refine m_iconst (v := 0) C dX12_takeStone_68 (by decide) ?_
        refine as_23 C b72 (by decide) rfl dX12_takeStone_69 ?_
        refine m_tops (fun τ75 eτ75 => ?_)
        have i76 : Inv τ75 := eτ75 ▸ Inv.putR0 i65 (by omega) kt_0
        have f77 : Fr MS_X12_takeStoneS AS_X12_takeStoneS σ τ75 := eτ75 ▸ Fr.put (f66) (Or.inr (by decide))
        have v78 : Pb τ75 := v67.put eτ75 (Or.inr (by omega))
        have v79 : TpM τ75 T N := v68.put eτ75 (Or.inl (by decide)) (by decide)
        have v80 : SFm σ τ75 := v69.put eτ75 (by omega)
        have v81 : PrM τ75 pn P := v70.put eτ75 (by omega) (by omega)
        refine m_aload_n C dX12_takeStone_70 rfl rfl ?_
        refine g_22_0 C q4_116 dX12_takeStone_71 ?_
        refine m_sipush (v := 188) C dX12_takeStone_74 (by decide) ?_
        refine m_dup2 C dX12_takeStone_77 rfl rfl ?_
        refine al_23 C kc_188 (by decide) kn_188 dX12_takeStone_78 ?_
        refine m_eqs (w := (gV σ 23 0 188)) (show gV τ75 23 0 188 = (gV σ 23 0 188) from (gV_putn eτ75 (Or.inr (Or.inr (nat_ne b72 (by decide))))).trans (show gV τ64 23 0 188 = (gV σ 23 0 188) from (gV_putn eτ64 (Or.inr (Or.inr (nat_ne b38 (by decide))))).trans a60)) ?_
        refine m_iconst (v := 1) C dX12_takeStone_79 (by decide) ?_
        refine m_iadd C dX12_takeStone_80 ?_
        refine m_topi (fun x82 ex82 => ?_)
        have tx82 : x82.toInt = (gV σ 23 0 188).toInt + 1 := by rw [ex82, ti_addv b10 kc_1 (by decide), kt_1]
        have b83 : IV x82 1 4 := by rw [ex82]; exact iv_add b10 kc_1 (by decide)
        refine as_23 C kc_188 (by decide) kn_188 dX12_takeStone_81 ?_
        refine m_tops (fun τ84 eτ84 => ?_)
        have i85 : Inv τ84 := eτ84 ▸ Inv.putR i76 (by decide) (iv_wk b83 (by decide))
        have f86 : Fr MS_X12_takeStoneS AS_X12_takeStoneS σ τ84 := eτ84 ▸ Fr.put (f77) (Or.inr (by decide))
        have v87 : Pb τ84 := v78.put eτ84 (Or.inr (by omega))
        have v88 : TpM τ84 T N := v79.put eτ84 (Or.inl (by decide)) (by decide)
        have v89 : SFm σ τ84 := v80.put eτ84 (by omega)
        have v90 : PrM τ84 pn P := v81.put eτ84 (by omega) (by omega)
        refine m_aload_n C dX12_takeStone_82 rfl rfl ?_
        have a91 : gV τ84 22 0 6 = (gV σ 22 0 6) := (show gV τ84 22 0 6 = (gV σ 22 0 6) from gV_put eτ84 (show gV τ75 22 0 6 = (gV σ 22 0 6) from gV_put eτ75 (show gV τ64 22 0 6 = (gV σ 22 0 6) from gV_put eτ64 a54)))
        have q92 : (gV τ84 22 0 6).toInt = (gV σ 22 0 6).toInt := congrArg Int32.toInt a91
        have a93 : gV τ84 23 0 150 = (gV σ 23 0 150) := (show gV τ84 23 0 150 = (gV σ 23 0 150) from gV_put eτ84 (show gV τ75 23 0 150 = (gV σ 23 0 150) from (gV_putn eτ75 (Or.inr (Or.inr (nat_ne b72 (by decide))))).trans (show gV τ64 23 0 150 = (gV σ 23 0 150) from (gV_putn eτ64 (Or.inr (Or.inr (nat_ne b38 (by decide))))).trans a56)))
        have q94 : (gV τ84 23 0 150).toInt = (gV σ 23 0 150).toInt := congrArg Int32.toInt a93
        have a95 : gV τ84 23 0 152 = (gV σ 23 0 152) := (show gV τ84 23 0 152 = (gV σ 23 0 152) from gV_put eτ84 (show gV τ75 23 0 152 = (gV σ 23 0 152) from (gV_putn eτ75 (Or.inr (Or.inr (nat_ne b72 (by decide))))).trans (show gV τ64 23 0 152 = (gV σ 23 0 152) from (gV_putn eτ64 (Or.inr (Or.inr (nat_ne b38 (by decide))))).trans a58)))
        have q96 : (gV τ84 23 0 152).toInt = (gV σ 23 0 152).toInt := congrArg Int32.toInt a95
        have a97 : gV τ84 22 0 11 = (gV τ42 22 0 11) := (show gV τ84 22 0 11 = (gV τ42 22 0 11) from gV_put eτ84 (show gV τ75 22 0 11 = (gV τ42 22 0 11) from gV_put eτ75 (show gV τ64 22 0 11 = (gV τ42 22 0 11) from gV_put eτ64 rfl)))
        have q98 : (gV τ84 22 0 11).toInt = (gV τ42 22 0 11).toInt := congrArg Int32.toInt a97
        have a99 : gV τ84 22 0 12 = (gV τ42 22 0 12) := (show gV τ84 22 0 12 = (gV τ42 22 0 12) from gV_put eτ84 (show gV τ75 22 0 12 = (gV τ42 22 0 12) from gV_put eτ75 (show gV τ64 22 0 12 = (gV τ42 22 0 12) from gV_put eτ64 rfl)))
        have q100 : (gV τ84 22 0 12).toInt = (gV τ42 22 0 12).toInt := congrArg Int32.toInt a99
        have a101 : gV τ84 22 0 16 = (gV τ42 22 0 16) := (show gV τ84 22 0 16 = (gV τ42 22 0 16) from gV_put eτ84 (show gV τ75 22 0 16 = (gV τ42 22 0 16) from gV_put eτ75 (show gV τ64 22 0 16 = (gV τ42 22 0 16) from gV_put eτ64 rfl)))
        have q102 : (gV τ84 22 0 16).toInt = (gV τ42 22 0 16).toInt := congrArg Int32.toInt a101
        have a103 : gV τ84 23 0 188 = x82 := (show gV τ84 23 0 188 = x82 from gV_put eτ84 (gV_self _ _ _ _ _))
        have q104 : (gV τ84 23 0 188).toInt = x82.toInt := congrArg Int32.toInt a103
        refine m_callV (n := 0) (ci := 11) (st := []) C (c_X12_takeSignE l G τ84 T N (tE T N (tE T N i))  i85 v88 (fun h => absurd h (by omega)) (by omega)) (by decide) (by decide) rfl rfl rfl q5_15 q5_12 q5_14 q0_32 q1_7 (by decide +kernel) rfl (by decide) (by decide) rfl (Nat.le_of_ble_eq_true rfl) dX12_takeStone_83 ?_
        rintro _ τ105 ⟨rfl, i106, f107, h111⟩
        have g110 : Fr MS_X12_takeStoneS AS_X12_takeStoneS σ τ105 := Fr.call (f86) f107 (by decide)
        have v112 : Pb τ105 := v87.call (fun k => f107.1 23 0 k (by simp) (by decide))
        have v113 : TpM τ105 T N := v88.fr f107 (by decide) (by decide) (by simp) (by decide)
        have v114 : SFm σ τ105 := v89.fr f107 (by simp) (by decide)
        have v115 : PrM τ105 pn P := v90.call (fun k => f107.1 23 0 k (by simp) (by decide))
        have u116 : IV (gV τ105 22 0 11) 0 400 := i106.1 22 0 11
        have a117 : gV τ105 22 0 6 = (gV σ 22 0 6) := (show gV τ105 22 0 6 = (gV σ 22 0 6) from (f107.1 22 0 (6) (by decide) (by decide)).trans a91)
        have q118 : (gV τ105 22 0 6).toInt = (gV σ 22 0 6).toInt := congrArg Int32.toInt a117
        have a119 : gV τ105 23 0 150 = (gV σ 23 0 150) := (show gV τ105 23 0 150 = (gV σ 23 0 150) from (f107.1 23 0 (150) (by decide) (by decide)).trans a93)
        have q120 : (gV τ105 23 0 150).toInt = (gV σ 23 0 150).toInt := congrArg Int32.toInt a119
        have a121 : gV τ105 23 0 152 = (gV σ 23 0 152) := (show gV τ105 23 0 152 = (gV σ 23 0 152) from (f107.1 23 0 (152) (by decide) (by decide)).trans a95)
        have q122 : (gV τ105 23 0 152).toInt = (gV σ 23 0 152).toInt := congrArg Int32.toInt a121
        have a123 : gV τ105 23 0 188 = x82 := (show gV τ105 23 0 188 = x82 from (f107.1 23 0 (188) (by decide) (by decide)).trans a103)
        have q124 : (gV τ105 23 0 188).toInt = x82.toInt := congrArg Int32.toInt a123
        rcases h111 with ⟨h111_0, h111_1, h111_2, h111_3⟩ | ⟨h111_0, h111_1, h111_2, h111_3, h111_4⟩ | ⟨h111_0, h111_1, h111_2, h111_3, h111_4, h111_5⟩
        · skip
          show MW p l e _ s m args below meth c _ 2 G 0 0 86 [some (.ref (G.1 22 0)), some (.int (gV σ 23 0 188))] [] τ105
          exact m_vret C hr hlk (by decide) (by decide) dX12_takeStone_86 ⟨rfl, i106, g110, ⟨(by have qd := sto_1 T N cc i (by omega) (by omega); exact Or.inl ⟨by omega, by omega, by omega, by omega, by omega, by omega, v112⟩), v114, v115⟩⟩
        · skip
          exfalso; omega
        · skip
          exfalso; omega
      · exfalso
        have q : _ := c73
        simp only [ti_nle, ti_nlt, ti_le, ti_lt, ti_eq, ti_ne, Classical.not_not, kt_0] at q
        have q1 := b63; have q2 := kc_0; omega
    · skip
      have b126 : IV x45 (-1) (-1) := ⟨by omega, by omega⟩
      have b127 : IV (gV τ42 22 0 16) 2 2 := ⟨by omega, by omega⟩
      show MW p l e _ s m args below meth c _ 2 G 0 0 41 [some (.ref (G.1 22 0)), some (.int (gV σ 23 0 188))] [.int x45, .int x37, .ref (G.1 23 0)] τ42
      refine as_23 C b38 (by decide) rfl dX12_takeStone_41 ?_
      refine m_tops (fun τ128 eτ128 => ?_)
      have i129 : Inv τ128 := eτ128 ▸ Inv.putRo i43 (by omega)
      have f130 : Fr MS_X12_takeStoneS AS_X12_takeStoneS σ τ128 := eτ128 ▸ Fr.put (g47) (Or.inr (by decide))
      have v131 : Pb τ128 := v49.put eτ128 (Or.inr (by omega))
      have v132 : TpM τ128 T N := v50.put eτ128 (Or.inl (by decide)) (by decide)
      have v133 : SFm σ τ128 := v51.put eτ128 (by omega)
      have v134 : PrM τ128 pn P := v52.put eτ128 (by omega) (by omega)
      refine m_aload_n C dX12_takeStone_42 rfl rfl ?_
      refine g_22_0 C q4_116 dX12_takeStone_43 ?_
      refine m_sipush (v := 193) C dX12_takeStone_46 (by decide) ?_
      refine m_iload_n C dX12_takeStone_49 rfl rfl ?_
      refine m_iadd C dX12_takeStone_50 ?_
      refine m_topi (fun x135 ex135 => ?_)
      have tx135 : x135.toInt = 193 + (gV σ 23 0 188).toInt := by rw [ex135, ti_addv kc_193 b10 (by decide), kt_193]
      have b136 : IV x135 193 196 := by rw [ex135]; exact iv_add kc_193 b10 (by decide)
      refine m_aload_n C dX12_takeStone_51 rfl rfl ?_
      refine g_22_16 C q4_132 dX12_takeStone_52 ?_
      refine m_eqs (w := (gV τ42 22 0 16)) (show gV τ128 22 0 16 = (gV τ42 22 0 16) from gV_put eτ128 rfl) ?_
      refine m_if_ne (tgt := 68) C dX12_takeStone_55 (by decide) (fun c137 => ?_) (fun c137 => ?_)
      · have f138 : (gV τ42 22 0 16).toInt ≠ 0 := by
          have q : _ := c137
          simp only [ti_nle, ti_nlt, ti_le, ti_lt, ti_eq, ti_ne, Classical.not_not, kt_0] at q
          omega
        refine m_iconst (v := 0) C dX12_takeStone_68 (by decide) ?_
        refine as_23 C b136 (by decide) rfl dX12_takeStone_69 ?_
        refine m_tops (fun τ139 eτ139 => ?_)
        have i140 : Inv τ139 := eτ139 ▸ Inv.putR0 i129 (by omega) kt_0
        have f141 : Fr MS_X12_takeStoneS AS_X12_takeStoneS σ τ139 := eτ139 ▸ Fr.put (f130) (Or.inr (by decide))
        have v142 : Pb τ139 := v131.put eτ139 (Or.inr (by omega))
        have v143 : TpM τ139 T N := v132.put eτ139 (Or.inl (by decide)) (by decide)
        have v144 : SFm σ τ139 := v133.put eτ139 (by omega)
        have v145 : PrM τ139 pn P := v134.put eτ139 (by omega) (by omega)
        refine m_aload_n C dX12_takeStone_70 rfl rfl ?_
        refine g_22_0 C q4_116 dX12_takeStone_71 ?_
        refine m_sipush (v := 188) C dX12_takeStone_74 (by decide) ?_
        refine m_dup2 C dX12_takeStone_77 rfl rfl ?_
        refine al_23 C kc_188 (by decide) kn_188 dX12_takeStone_78 ?_
        refine m_eqs (w := (gV σ 23 0 188)) (show gV τ139 23 0 188 = (gV σ 23 0 188) from (gV_putn eτ139 (Or.inr (Or.inr (nat_ne b136 (by decide))))).trans (show gV τ128 23 0 188 = (gV σ 23 0 188) from (gV_putn eτ128 (Or.inr (Or.inr (nat_ne b38 (by decide))))).trans a60)) ?_
        refine m_iconst (v := 1) C dX12_takeStone_79 (by decide) ?_
        refine m_iadd C dX12_takeStone_80 ?_
        refine m_topi (fun x146 ex146 => ?_)
        have tx146 : x146.toInt = (gV σ 23 0 188).toInt + 1 := by rw [ex146, ti_addv b10 kc_1 (by decide), kt_1]
        have b147 : IV x146 1 4 := by rw [ex146]; exact iv_add b10 kc_1 (by decide)
        refine as_23 C kc_188 (by decide) kn_188 dX12_takeStone_81 ?_
        refine m_tops (fun τ148 eτ148 => ?_)
        have i149 : Inv τ148 := eτ148 ▸ Inv.putR i140 (by decide) (iv_wk b147 (by decide))
        have f150 : Fr MS_X12_takeStoneS AS_X12_takeStoneS σ τ148 := eτ148 ▸ Fr.put (f141) (Or.inr (by decide))
        have v151 : Pb τ148 := v142.put eτ148 (Or.inr (by omega))
        have v152 : TpM τ148 T N := v143.put eτ148 (Or.inl (by decide)) (by decide)
        have v153 : SFm σ τ148 := v144.put eτ148 (by omega)
        have v154 : PrM τ148 pn P := v145.put eτ148 (by omega) (by omega)
        refine m_aload_n C dX12_takeStone_82 rfl rfl ?_
        have a155 : gV τ148 22 0 6 = (gV σ 22 0 6) := (show gV τ148 22 0 6 = (gV σ 22 0 6) from gV_put eτ148 (show gV τ139 22 0 6 = (gV σ 22 0 6) from gV_put eτ139 (show gV τ128 22 0 6 = (gV σ 22 0 6) from gV_put eτ128 a54)))
        have q156 : (gV τ148 22 0 6).toInt = (gV σ 22 0 6).toInt := congrArg Int32.toInt a155
        have a157 : gV τ148 23 0 150 = (gV σ 23 0 150) := (show gV τ148 23 0 150 = (gV σ 23 0 150) from gV_put eτ148 (show gV τ139 23 0 150 = (gV σ 23 0 150) from (gV_putn eτ139 (Or.inr (Or.inr (nat_ne b136 (by decide))))).trans (show gV τ128 23 0 150 = (gV σ 23 0 150) from (gV_putn eτ128 (Or.inr (Or.inr (nat_ne b38 (by decide))))).trans a56)))
        have q158 : (gV τ148 23 0 150).toInt = (gV σ 23 0 150).toInt := congrArg Int32.toInt a157
        have a159 : gV τ148 23 0 152 = (gV σ 23 0 152) := (show gV τ148 23 0 152 = (gV σ 23 0 152) from gV_put eτ148 (show gV τ139 23 0 152 = (gV σ 23 0 152) from (gV_putn eτ139 (Or.inr (Or.inr (nat_ne b136 (by decide))))).trans (show gV τ128 23 0 152 = (gV σ 23 0 152) from (gV_putn eτ128 (Or.inr (Or.inr (nat_ne b38 (by decide))))).trans a58)))
        have q160 : (gV τ148 23 0 152).toInt = (gV σ 23 0 152).toInt := congrArg Int32.toInt a159
        have a161 : gV τ148 22 0 11 = (gV τ42 22 0 11) := (show gV τ148 22 0 11 = (gV τ42 22 0 11) from gV_put eτ148 (show gV τ139 22 0 11 = (gV τ42 22 0 11) from gV_put eτ139 (show gV τ128 22 0 11 = (gV τ42 22 0 11) from gV_put eτ128 rfl)))
        have q162 : (gV τ148 22 0 11).toInt = (gV τ42 22 0 11).toInt := congrArg Int32.toInt a161
        have a163 : gV τ148 22 0 12 = (gV τ42 22 0 12) := (show gV τ148 22 0 12 = (gV τ42 22 0 12) from gV_put eτ148 (show gV τ139 22 0 12 = (gV τ42 22 0 12) from gV_put eτ139 (show gV τ128 22 0 12 = (gV τ42 22 0 12) from gV_put eτ128 rfl)))
        have q164 : (gV τ148 22 0 12).toInt = (gV τ42 22 0 12).toInt := congrArg Int32.toInt a163
        have a165 : gV τ148 22 0 16 = (gV τ42 22 0 16) := (show gV τ148 22 0 16 = (gV τ42 22 0 16) from gV_put eτ148 (show gV τ139 22 0 16 = (gV τ42 22 0 16) from gV_put eτ139 (show gV τ128 22 0 16 = (gV τ42 22 0 16) from gV_put eτ128 rfl)))
        have q166 : (gV τ148 22 0 16).toInt = (gV τ42 22 0 16).toInt := congrArg Int32.toInt a165
        have a167 : gV τ148 23 0 188 = x146 := (show gV τ148 23 0 188 = x146 from gV_put eτ148 (gV_self _ _ _ _ _))
        have q168 : (gV τ148 23 0 188).toInt = x146.toInt := congrArg Int32.toInt a167
        refine m_callV (n := 0) (ci := 11) (st := []) C (c_X12_takeSignE l G τ148 T N (tE T N (tE T N i))  i149 v152 (fun h => absurd h (by omega)) (by omega)) (by decide) (by decide) rfl rfl rfl q5_15 q5_12 q5_14 q0_32 q1_7 (by decide +kernel) rfl (by decide) (by decide) rfl (Nat.le_of_ble_eq_true rfl) dX12_takeStone_83 ?_
        rintro _ τ169 ⟨rfl, i170, f171, h175⟩
        have g174 : Fr MS_X12_takeStoneS AS_X12_takeStoneS σ τ169 := Fr.call (f150) f171 (by decide)
        have v176 : Pb τ169 := v151.call (fun k => f171.1 23 0 k (by simp) (by decide))
        have v177 : TpM τ169 T N := v152.fr f171 (by decide) (by decide) (by simp) (by decide)
        have v178 : SFm σ τ169 := v153.fr f171 (by simp) (by decide)
        have v179 : PrM τ169 pn P := v154.call (fun k => f171.1 23 0 k (by simp) (by decide))
        have u180 : IV (gV τ169 22 0 11) 0 400 := i170.1 22 0 11
        have a181 : gV τ169 22 0 6 = (gV σ 22 0 6) := (show gV τ169 22 0 6 = (gV σ 22 0 6) from (f171.1 22 0 (6) (by decide) (by decide)).trans a155)
        have q182 : (gV τ169 22 0 6).toInt = (gV σ 22 0 6).toInt := congrArg Int32.toInt a181
        have a183 : gV τ169 23 0 150 = (gV σ 23 0 150) := (show gV τ169 23 0 150 = (gV σ 23 0 150) from (f171.1 23 0 (150) (by decide) (by decide)).trans a157)
        have q184 : (gV τ169 23 0 150).toInt = (gV σ 23 0 150).toInt := congrArg Int32.toInt a183
        have a185 : gV τ169 23 0 152 = (gV σ 23 0 152) := (show gV τ169 23 0 152 = (gV σ 23 0 152) from (f171.1 23 0 (152) (by decide) (by decide)).trans a159)
        have q186 : (gV τ169 23 0 152).toInt = (gV σ 23 0 152).toInt := congrArg Int32.toInt a185
        have a187 : gV τ169 23 0 188 = x146 := (show gV τ169 23 0 188 = x146 from (f171.1 23 0 (188) (by decide) (by decide)).trans a167)
        have q188 : (gV τ169 23 0 188).toInt = x146.toInt := congrArg Int32.toInt a187
        rcases h175 with ⟨h175_0, h175_1, h175_2, h175_3⟩ | ⟨h175_0, h175_1, h175_2, h175_3, h175_4⟩ | ⟨h175_0, h175_1, h175_2, h175_3, h175_4, h175_5⟩
        · skip
          show MW p l e _ s m args below meth c _ 2 G 0 0 86 [some (.ref (G.1 22 0)), some (.int (gV σ 23 0 188))] [] τ169
          exact m_vret C hr hlk (by decide) (by decide) dX12_takeStone_86 ⟨rfl, i170, g174, ⟨(by have qd := sto_2 T N cc i (by omega) (by omega) (by omega); exact Or.inl ⟨by omega, by omega, by omega, by omega, by omega, by omega, v176⟩), v178, v179⟩⟩
        · skip
          exfalso; omega
        · skip
          exfalso; omega
      · exfalso
        have q : _ := c137
        simp only [ti_nle, ti_nlt, ti_le, ti_lt, ti_eq, ti_ne, Classical.not_not, kt_0] at q
        have q1 := b127; have q2 := kc_0; omega
    · skip
      have q190 : 1 ≤ tV T (tE T N i) ∧ tV T (tE T N i) ≤ 20 := by omega
      clear h48_1
      have v191 : CuM T N (tE T N (tE T N i)) τ42 := ⟨h48_4, h48_5⟩
      clear h48_4
      have b192 : IV (gV τ42 22 0 16) 0 0 := ⟨by omega, by omega⟩
      show MW p l e _ s m args below meth c _ 2 G 0 0 41 [some (.ref (G.1 22 0)), some (.int (gV σ 23 0 188))] [.int x45, .int x37, .ref (G.1 23 0)] τ42
      refine as_23 C b38 (by decide) rfl dX12_takeStone_41 ?_
      refine m_tops (fun τ193 eτ193 => ?_)
      have i194 : Inv τ193 := eτ193 ▸ Inv.putRo i43 (by omega)
      have f195 : Fr MS_X12_takeStoneS AS_X12_takeStoneS σ τ193 := eτ193 ▸ Fr.put (g47) (Or.inr (by decide))
      have v196 : Pb τ193 := v49.put eτ193 (Or.inr (by omega))
      have v197 : TpM τ193 T N := v50.put eτ193 (Or.inl (by decide)) (by decide)
      have v198 : SFm σ τ193 := v51.put eτ193 (by omega)
      have v199 : PrM τ193 pn P := v52.put eτ193 (by omega) (by omega)
      have v200 : LW T N (tE T N (tE T N i)) τ193.2.2.1 := by rw [eτ193]; exact h48_6
      have v201 : CuM T N (tE T N (tE T N i)) τ193 := CuM.put v191 eτ193 (Or.inl (by decide))
      refine m_aload_n C dX12_takeStone_42 rfl rfl ?_
      refine g_22_0 C q4_116 dX12_takeStone_43 ?_
      refine m_sipush (v := 193) C dX12_takeStone_46 (by decide) ?_
      refine m_iload_n C dX12_takeStone_49 rfl rfl ?_
      refine m_iadd C dX12_takeStone_50 ?_
      refine m_topi (fun x202 ex202 => ?_)
      have tx202 : x202.toInt = 193 + (gV σ 23 0 188).toInt := by rw [ex202, ti_addv kc_193 b10 (by decide), kt_193]
      have b203 : IV x202 193 196 := by rw [ex202]; exact iv_add kc_193 b10 (by decide)
      refine m_aload_n C dX12_takeStone_51 rfl rfl ?_
      refine g_22_16 C q4_132 dX12_takeStone_52 ?_
      refine m_eqs (w := (gV τ42 22 0 16)) (show gV τ193 22 0 16 = (gV τ42 22 0 16) from gV_put eτ193 rfl) ?_
      refine m_if_ne (tgt := 68) C dX12_takeStone_55 (by decide) (fun c204 => ?_) (fun c204 => ?_)
      · exfalso
        have q : _ := c204
        simp only [ti_nle, ti_nlt, ti_le, ti_lt, ti_eq, ti_ne, Classical.not_not, kt_0] at q
        have q1 := b192; have q2 := kc_0; omega
      · have f206 : (gV τ42 22 0 16).toInt = 0 := by
          have q : _ := c204
          simp only [ti_nle, ti_nlt, ti_le, ti_lt, ti_eq, ti_ne, Classical.not_not, kt_0] at q
          omega
        refine m_aload_n C dX12_takeStone_58 rfl rfl ?_
        refine m_iconst (v := 0) C dX12_takeStone_59 (by decide) ?_
        refine m_iconst (v := 3) C dX12_takeStone_60 (by decide) ?_
        refine m_iconst (v := 0) C dX12_takeStone_61 (by decide) ?_
        have a207 : gV τ193 22 0 6 = (gV σ 22 0 6) := (show gV τ193 22 0 6 = (gV σ 22 0 6) from gV_put eτ193 a54)
        have q208 : (gV τ193 22 0 6).toInt = (gV σ 22 0 6).toInt := congrArg Int32.toInt a207
        have a209 : gV τ193 23 0 150 = (gV σ 23 0 150) := (show gV τ193 23 0 150 = (gV σ 23 0 150) from (gV_putn eτ193 (Or.inr (Or.inr (nat_ne b38 (by decide))))).trans a56)
        have q210 : (gV τ193 23 0 150).toInt = (gV σ 23 0 150).toInt := congrArg Int32.toInt a209
        have a211 : gV τ193 23 0 152 = (gV σ 23 0 152) := (show gV τ193 23 0 152 = (gV σ 23 0 152) from (gV_putn eτ193 (Or.inr (Or.inr (nat_ne b38 (by decide))))).trans a58)
        have q212 : (gV τ193 23 0 152).toInt = (gV σ 23 0 152).toInt := congrArg Int32.toInt a211
        have a213 : gV τ193 23 0 188 = (gV σ 23 0 188) := (show gV τ193 23 0 188 = (gV σ 23 0 188) from (gV_putn eτ193 (Or.inr (Or.inr (nat_ne b38 (by decide))))).trans a60)
        have q214 : (gV τ193 23 0 188).toInt = (gV σ 23 0 188).toInt := congrArg Int32.toInt a213
        have a215 : gV τ193 22 0 11 = (gV τ42 22 0 11) := (show gV τ193 22 0 11 = (gV τ42 22 0 11) from gV_put eτ193 rfl)
        have q216 : (gV τ193 22 0 11).toInt = (gV τ42 22 0 11).toInt := congrArg Int32.toInt a215
        have a217 : gV τ193 22 0 12 = (gV τ42 22 0 12) := (show gV τ193 22 0 12 = (gV τ42 22 0 12) from gV_put eτ193 rfl)
        have q218 : (gV τ193 22 0 12).toInt = (gV τ42 22 0 12).toInt := congrArg Int32.toInt a217
        have a219 : gV τ193 22 0 16 = (gV τ42 22 0 16) := (show gV τ193 22 0 16 = (gV τ42 22 0 16) from gV_put eτ193 rfl)
        have q220 : (gV τ193 22 0 16).toInt = (gV τ42 22 0 16).toInt := congrArg Int32.toInt a219
        have q221 := kt_0
        have q222 := kt_3
        have q223 := kt_0
        refine m_callV (n := 3) (ci := 11) (st := [.int x202, .ref (G.1 23 0)]) C (c_X12_takeNumberE l G τ193 T N (tE T N (tE T N i)) (0) (3) (0) i194 v197 v201.1 (by omega)) (by decide) (by decide) rfl rfl rfl q5_7 q5_4 q5_6 q0_30 q1_7 (by decide +kernel) rfl (by decide) (by decide) rfl (Nat.le_of_ble_eq_true rfl) dX12_takeStone_62 ?_
        rintro _ τ224 ⟨x227, rfl, i225, f226, b228, h230⟩
        have g229 : Fr MS_X12_takeStoneS AS_X12_takeStoneS σ τ224 := Fr.call (f195) f226 (by decide)
        have v231 : Pb τ224 := v196.call (fun k => f226.1 23 0 k (by simp) (by decide))
        have v232 : TpM τ224 T N := v197.fr f226 (by decide) (by decide) (by simp) (by decide)
        have v233 : SFm σ τ224 := v198.fr f226 (by simp) (by decide)
        have v234 : PrM τ224 pn P := v199.call (fun k => f226.1 23 0 k (by simp) (by decide))
        have u235 : IV (gV τ224 22 0 11) 0 400 := i225.1 22 0 11
        have a236 : gV τ224 22 0 6 = (gV σ 22 0 6) := (show gV τ224 22 0 6 = (gV σ 22 0 6) from (f226.1 22 0 (6) (by decide) (by decide)).trans a207)
        have q237 : (gV τ224 22 0 6).toInt = (gV σ 22 0 6).toInt := congrArg Int32.toInt a236
        have a238 : gV τ224 23 0 150 = (gV σ 23 0 150) := (show gV τ224 23 0 150 = (gV σ 23 0 150) from (f226.1 23 0 (150) (by decide) (by decide)).trans a209)
        have q239 : (gV τ224 23 0 150).toInt = (gV σ 23 0 150).toInt := congrArg Int32.toInt a238
        have a240 : gV τ224 23 0 152 = (gV σ 23 0 152) := (show gV τ224 23 0 152 = (gV σ 23 0 152) from (f226.1 23 0 (152) (by decide) (by decide)).trans a211)
        have q241 : (gV τ224 23 0 152).toInt = (gV σ 23 0 152).toInt := congrArg Int32.toInt a240
        have a242 : gV τ224 23 0 188 = (gV σ 23 0 188) := (show gV τ224 23 0 188 = (gV σ 23 0 188) from (f226.1 23 0 (188) (by decide) (by decide)).trans a213)
        have q243 : (gV τ224 23 0 188).toInt = (gV σ 23 0 188).toInt := congrArg Int32.toInt a242
        rcases h230 with ⟨h230_0, h230_1, h230_2, h230_3, h230_4⟩ | ⟨h230_0, h230_1, h230_2, h230_3, h230_4, h230_5, h230_6⟩ | ⟨h230_0, h230_1, h230_2, h230_3, h230_4, h230_5, h230_6⟩
        · skip
          have b244 : IV x227 (-1) (-1) := ⟨by omega, by omega⟩
          have b245 : IV (gV τ224 22 0 16) 1 1 := ⟨by omega, by omega⟩
          show MW p l e _ s m args below meth c _ 2 G 0 0 65 [some (.ref (G.1 22 0)), some (.int (gV σ 23 0 188))] [.int x227, .int x202, .ref (G.1 23 0)] τ224
          refine m_goto (tgt := 69) C dX12_takeStone_65 (by decide) ?_
          refine as_23 C b203 (by decide) rfl dX12_takeStone_69 ?_
          refine m_tops (fun τ246 eτ246 => ?_)
          have i247 : Inv τ246 := eτ246 ▸ Inv.putRo i225 (by omega)
          have f248 : Fr MS_X12_takeStoneS AS_X12_takeStoneS σ τ246 := eτ246 ▸ Fr.put (g229) (Or.inr (by decide))
          have v249 : Pb τ246 := v231.put eτ246 (Or.inr (by omega))
          have v250 : TpM τ246 T N := v232.put eτ246 (Or.inl (by decide)) (by decide)
          have v251 : SFm σ τ246 := v233.put eτ246 (by omega)
          have v252 : PrM τ246 pn P := v234.put eτ246 (by omega) (by omega)
          refine m_aload_n C dX12_takeStone_70 rfl rfl ?_
          refine g_22_0 C q4_116 dX12_takeStone_71 ?_
          refine m_sipush (v := 188) C dX12_takeStone_74 (by decide) ?_
          refine m_dup2 C dX12_takeStone_77 rfl rfl ?_
          refine al_23 C kc_188 (by decide) kn_188 dX12_takeStone_78 ?_
          refine m_eqs (w := (gV σ 23 0 188)) (show gV τ246 23 0 188 = (gV σ 23 0 188) from (gV_putn eτ246 (Or.inr (Or.inr (nat_ne b203 (by decide))))).trans a242) ?_
          refine m_iconst (v := 1) C dX12_takeStone_79 (by decide) ?_
          refine m_iadd C dX12_takeStone_80 ?_
          refine m_topi (fun x253 ex253 => ?_)
          have tx253 : x253.toInt = (gV σ 23 0 188).toInt + 1 := by rw [ex253, ti_addv b10 kc_1 (by decide), kt_1]
          have b254 : IV x253 1 4 := by rw [ex253]; exact iv_add b10 kc_1 (by decide)
          refine as_23 C kc_188 (by decide) kn_188 dX12_takeStone_81 ?_
          refine m_tops (fun τ255 eτ255 => ?_)
          have i256 : Inv τ255 := eτ255 ▸ Inv.putR i247 (by decide) (iv_wk b254 (by decide))
          have f257 : Fr MS_X12_takeStoneS AS_X12_takeStoneS σ τ255 := eτ255 ▸ Fr.put (f248) (Or.inr (by decide))
          have v258 : Pb τ255 := v249.put eτ255 (Or.inr (by omega))
          have v259 : TpM τ255 T N := v250.put eτ255 (Or.inl (by decide)) (by decide)
          have v260 : SFm σ τ255 := v251.put eτ255 (by omega)
          have v261 : PrM τ255 pn P := v252.put eτ255 (by omega) (by omega)
          refine m_aload_n C dX12_takeStone_82 rfl rfl ?_
          have a262 : gV τ255 22 0 6 = (gV σ 22 0 6) := (show gV τ255 22 0 6 = (gV σ 22 0 6) from gV_put eτ255 (show gV τ246 22 0 6 = (gV σ 22 0 6) from gV_put eτ246 a236))
          have q263 : (gV τ255 22 0 6).toInt = (gV σ 22 0 6).toInt := congrArg Int32.toInt a262
          have a264 : gV τ255 23 0 150 = (gV σ 23 0 150) := (show gV τ255 23 0 150 = (gV σ 23 0 150) from gV_put eτ255 (show gV τ246 23 0 150 = (gV σ 23 0 150) from (gV_putn eτ246 (Or.inr (Or.inr (nat_ne b203 (by decide))))).trans a238))
          have q265 : (gV τ255 23 0 150).toInt = (gV σ 23 0 150).toInt := congrArg Int32.toInt a264
          have a266 : gV τ255 23 0 152 = (gV σ 23 0 152) := (show gV τ255 23 0 152 = (gV σ 23 0 152) from gV_put eτ255 (show gV τ246 23 0 152 = (gV σ 23 0 152) from (gV_putn eτ246 (Or.inr (Or.inr (nat_ne b203 (by decide))))).trans a240))
          have q267 : (gV τ255 23 0 152).toInt = (gV σ 23 0 152).toInt := congrArg Int32.toInt a266
          have a268 : gV τ255 22 0 11 = (gV τ224 22 0 11) := (show gV τ255 22 0 11 = (gV τ224 22 0 11) from gV_put eτ255 (show gV τ246 22 0 11 = (gV τ224 22 0 11) from gV_put eτ246 rfl))
          have q269 : (gV τ255 22 0 11).toInt = (gV τ224 22 0 11).toInt := congrArg Int32.toInt a268
          have a270 : gV τ255 22 0 12 = (gV τ224 22 0 12) := (show gV τ255 22 0 12 = (gV τ224 22 0 12) from gV_put eτ255 (show gV τ246 22 0 12 = (gV τ224 22 0 12) from gV_put eτ246 rfl))
          have q271 : (gV τ255 22 0 12).toInt = (gV τ224 22 0 12).toInt := congrArg Int32.toInt a270
          have a272 : gV τ255 22 0 16 = (gV τ224 22 0 16) := (show gV τ255 22 0 16 = (gV τ224 22 0 16) from gV_put eτ255 (show gV τ246 22 0 16 = (gV τ224 22 0 16) from gV_put eτ246 rfl))
          have q273 : (gV τ255 22 0 16).toInt = (gV τ224 22 0 16).toInt := congrArg Int32.toInt a272
          have a274 : gV τ255 23 0 188 = x253 := (show gV τ255 23 0 188 = x253 from gV_put eτ255 (gV_self _ _ _ _ _))
          have q275 : (gV τ255 23 0 188).toInt = x253.toInt := congrArg Int32.toInt a274
          refine m_callV (n := 0) (ci := 11) (st := []) C (c_X12_takeSignE l G τ255 T N (tE T N (tE T N (tE T N i)))  i256 v259 (fun h => absurd h (by omega)) (by omega)) (by decide) (by decide) rfl rfl rfl q5_15 q5_12 q5_14 q0_32 q1_7 (by decide +kernel) rfl (by decide) (by decide) rfl (Nat.le_of_ble_eq_true rfl) dX12_takeStone_83 ?_
          rintro _ τ276 ⟨rfl, i277, f278, h282⟩
          have g281 : Fr MS_X12_takeStoneS AS_X12_takeStoneS σ τ276 := Fr.call (f257) f278 (by decide)
          have v283 : Pb τ276 := v258.call (fun k => f278.1 23 0 k (by simp) (by decide))
          have v284 : TpM τ276 T N := v259.fr f278 (by decide) (by decide) (by simp) (by decide)
          have v285 : SFm σ τ276 := v260.fr f278 (by simp) (by decide)
          have v286 : PrM τ276 pn P := v261.call (fun k => f278.1 23 0 k (by simp) (by decide))
          have u287 : IV (gV τ276 22 0 11) 0 400 := i277.1 22 0 11
          have a288 : gV τ276 22 0 6 = (gV σ 22 0 6) := (show gV τ276 22 0 6 = (gV σ 22 0 6) from (f278.1 22 0 (6) (by decide) (by decide)).trans a262)
          have q289 : (gV τ276 22 0 6).toInt = (gV σ 22 0 6).toInt := congrArg Int32.toInt a288
          have a290 : gV τ276 23 0 150 = (gV σ 23 0 150) := (show gV τ276 23 0 150 = (gV σ 23 0 150) from (f278.1 23 0 (150) (by decide) (by decide)).trans a264)
          have q291 : (gV τ276 23 0 150).toInt = (gV σ 23 0 150).toInt := congrArg Int32.toInt a290
          have a292 : gV τ276 23 0 152 = (gV σ 23 0 152) := (show gV τ276 23 0 152 = (gV σ 23 0 152) from (f278.1 23 0 (152) (by decide) (by decide)).trans a266)
          have q293 : (gV τ276 23 0 152).toInt = (gV σ 23 0 152).toInt := congrArg Int32.toInt a292
          have a294 : gV τ276 23 0 188 = x253 := (show gV τ276 23 0 188 = x253 from (f278.1 23 0 (188) (by decide) (by decide)).trans a274)
          have q295 : (gV τ276 23 0 188).toInt = x253.toInt := congrArg Int32.toInt a294
          rcases h282 with ⟨h282_0, h282_1, h282_2, h282_3⟩ | ⟨h282_0, h282_1, h282_2, h282_3, h282_4⟩ | ⟨h282_0, h282_1, h282_2, h282_3, h282_4, h282_5⟩
          · skip
            show MW p l e _ s m args below meth c _ 2 G 0 0 86 [some (.ref (G.1 22 0)), some (.int (gV σ 23 0 188))] [] τ276
            exact m_vret C hr hlk (by decide) (by decide) dX12_takeStone_86 ⟨rfl, i277, g281, ⟨(by have qd := sto_3 T N cc i (by omega) (by omega) (by omega) (by omega); exact Or.inl ⟨by omega, by omega, by omega, by omega, by omega, by omega, v283⟩), v285, v286⟩⟩
          · skip
            exfalso; omega
          · skip
            exfalso; omega
        · skip
          have b296 : IV x227 (-1) (-1) := ⟨by omega, by omega⟩
          have b297 : IV (gV τ224 22 0 16) 2 2 := ⟨by omega, by omega⟩
          show MW p l e _ s m args below meth c _ 2 G 0 0 65 [some (.ref (G.1 22 0)), some (.int (gV σ 23 0 188))] [.int x227, .int x202, .ref (G.1 23 0)] τ224
          refine m_goto (tgt := 69) C dX12_takeStone_65 (by decide) ?_
          refine as_23 C b203 (by decide) rfl dX12_takeStone_69 ?_
          refine m_tops (fun τ298 eτ298 => ?_)
          have i299 : Inv τ298 := eτ298 ▸ Inv.putRo i225 (by omega)
          have f300 : Fr MS_X12_takeStoneS AS_X12_takeStoneS σ τ298 := eτ298 ▸ Fr.put (g229) (Or.inr (by decide))
          have v301 : Pb τ298 := v231.put eτ298 (Or.inr (by omega))
          have v302 : TpM τ298 T N := v232.put eτ298 (Or.inl (by decide)) (by decide)
          have v303 : SFm σ τ298 := v233.put eτ298 (by omega)
          have v304 : PrM τ298 pn P := v234.put eτ298 (by omega) (by omega)
          refine m_aload_n C dX12_takeStone_70 rfl rfl ?_
          refine g_22_0 C q4_116 dX12_takeStone_71 ?_
          refine m_sipush (v := 188) C dX12_takeStone_74 (by decide) ?_
          refine m_dup2 C dX12_takeStone_77 rfl rfl ?_
          refine al_23 C kc_188 (by decide) kn_188 dX12_takeStone_78 ?_
          refine m_eqs (w := (gV σ 23 0 188)) (show gV τ298 23 0 188 = (gV σ 23 0 188) from (gV_putn eτ298 (Or.inr (Or.inr (nat_ne b203 (by decide))))).trans a242) ?_
          refine m_iconst (v := 1) C dX12_takeStone_79 (by decide) ?_
          refine m_iadd C dX12_takeStone_80 ?_
          refine m_topi (fun x305 ex305 => ?_)
          have tx305 : x305.toInt = (gV σ 23 0 188).toInt + 1 := by rw [ex305, ti_addv b10 kc_1 (by decide), kt_1]
          have b306 : IV x305 1 4 := by rw [ex305]; exact iv_add b10 kc_1 (by decide)
          refine as_23 C kc_188 (by decide) kn_188 dX12_takeStone_81 ?_
          refine m_tops (fun τ307 eτ307 => ?_)
          have i308 : Inv τ307 := eτ307 ▸ Inv.putR i299 (by decide) (iv_wk b306 (by decide))
          have f309 : Fr MS_X12_takeStoneS AS_X12_takeStoneS σ τ307 := eτ307 ▸ Fr.put (f300) (Or.inr (by decide))
          have v310 : Pb τ307 := v301.put eτ307 (Or.inr (by omega))
          have v311 : TpM τ307 T N := v302.put eτ307 (Or.inl (by decide)) (by decide)
          have v312 : SFm σ τ307 := v303.put eτ307 (by omega)
          have v313 : PrM τ307 pn P := v304.put eτ307 (by omega) (by omega)
          refine m_aload_n C dX12_takeStone_82 rfl rfl ?_
          have a314 : gV τ307 22 0 6 = (gV σ 22 0 6) := (show gV τ307 22 0 6 = (gV σ 22 0 6) from gV_put eτ307 (show gV τ298 22 0 6 = (gV σ 22 0 6) from gV_put eτ298 a236))
          have q315 : (gV τ307 22 0 6).toInt = (gV σ 22 0 6).toInt := congrArg Int32.toInt a314
          have a316 : gV τ307 23 0 150 = (gV σ 23 0 150) := (show gV τ307 23 0 150 = (gV σ 23 0 150) from gV_put eτ307 (show gV τ298 23 0 150 = (gV σ 23 0 150) from (gV_putn eτ298 (Or.inr (Or.inr (nat_ne b203 (by decide))))).trans a238))
          have q317 : (gV τ307 23 0 150).toInt = (gV σ 23 0 150).toInt := congrArg Int32.toInt a316
          have a318 : gV τ307 23 0 152 = (gV σ 23 0 152) := (show gV τ307 23 0 152 = (gV σ 23 0 152) from gV_put eτ307 (show gV τ298 23 0 152 = (gV σ 23 0 152) from (gV_putn eτ298 (Or.inr (Or.inr (nat_ne b203 (by decide))))).trans a240))
          have q319 : (gV τ307 23 0 152).toInt = (gV σ 23 0 152).toInt := congrArg Int32.toInt a318
          have a320 : gV τ307 22 0 11 = (gV τ224 22 0 11) := (show gV τ307 22 0 11 = (gV τ224 22 0 11) from gV_put eτ307 (show gV τ298 22 0 11 = (gV τ224 22 0 11) from gV_put eτ298 rfl))
          have q321 : (gV τ307 22 0 11).toInt = (gV τ224 22 0 11).toInt := congrArg Int32.toInt a320
          have a322 : gV τ307 22 0 12 = (gV τ224 22 0 12) := (show gV τ307 22 0 12 = (gV τ224 22 0 12) from gV_put eτ307 (show gV τ298 22 0 12 = (gV τ224 22 0 12) from gV_put eτ298 rfl))
          have q323 : (gV τ307 22 0 12).toInt = (gV τ224 22 0 12).toInt := congrArg Int32.toInt a322
          have a324 : gV τ307 22 0 16 = (gV τ224 22 0 16) := (show gV τ307 22 0 16 = (gV τ224 22 0 16) from gV_put eτ307 (show gV τ298 22 0 16 = (gV τ224 22 0 16) from gV_put eτ298 rfl))
          have q325 : (gV τ307 22 0 16).toInt = (gV τ224 22 0 16).toInt := congrArg Int32.toInt a324
          have a326 : gV τ307 23 0 188 = x305 := (show gV τ307 23 0 188 = x305 from gV_put eτ307 (gV_self _ _ _ _ _))
          have q327 : (gV τ307 23 0 188).toInt = x305.toInt := congrArg Int32.toInt a326
          refine m_callV (n := 0) (ci := 11) (st := []) C (c_X12_takeSignE l G τ307 T N (tE T N (tE T N (tE T N i)))  i308 v311 (fun h => absurd h (by omega)) (by omega)) (by decide) (by decide) rfl rfl rfl q5_15 q5_12 q5_14 q0_32 q1_7 (by decide +kernel) rfl (by decide) (by decide) rfl (Nat.le_of_ble_eq_true rfl) dX12_takeStone_83 ?_
          rintro _ τ328 ⟨rfl, i329, f330, h334⟩
          have g333 : Fr MS_X12_takeStoneS AS_X12_takeStoneS σ τ328 := Fr.call (f309) f330 (by decide)
          have v335 : Pb τ328 := v310.call (fun k => f330.1 23 0 k (by simp) (by decide))
          have v336 : TpM τ328 T N := v311.fr f330 (by decide) (by decide) (by simp) (by decide)
          have v337 : SFm σ τ328 := v312.fr f330 (by simp) (by decide)
          have v338 : PrM τ328 pn P := v313.call (fun k => f330.1 23 0 k (by simp) (by decide))
          have u339 : IV (gV τ328 22 0 11) 0 400 := i329.1 22 0 11
          have a340 : gV τ328 22 0 6 = (gV σ 22 0 6) := (show gV τ328 22 0 6 = (gV σ 22 0 6) from (f330.1 22 0 (6) (by decide) (by decide)).trans a314)
          have q341 : (gV τ328 22 0 6).toInt = (gV σ 22 0 6).toInt := congrArg Int32.toInt a340
          have a342 : gV τ328 23 0 150 = (gV σ 23 0 150) := (show gV τ328 23 0 150 = (gV σ 23 0 150) from (f330.1 23 0 (150) (by decide) (by decide)).trans a316)
          have q343 : (gV τ328 23 0 150).toInt = (gV σ 23 0 150).toInt := congrArg Int32.toInt a342
          have a344 : gV τ328 23 0 152 = (gV σ 23 0 152) := (show gV τ328 23 0 152 = (gV σ 23 0 152) from (f330.1 23 0 (152) (by decide) (by decide)).trans a318)
          have q345 : (gV τ328 23 0 152).toInt = (gV σ 23 0 152).toInt := congrArg Int32.toInt a344
          have a346 : gV τ328 23 0 188 = x305 := (show gV τ328 23 0 188 = x305 from (f330.1 23 0 (188) (by decide) (by decide)).trans a326)
          have q347 : (gV τ328 23 0 188).toInt = x305.toInt := congrArg Int32.toInt a346
          rcases h334 with ⟨h334_0, h334_1, h334_2, h334_3⟩ | ⟨h334_0, h334_1, h334_2, h334_3, h334_4⟩ | ⟨h334_0, h334_1, h334_2, h334_3, h334_4, h334_5⟩
          · skip
            show MW p l e _ s m args below meth c _ 2 G 0 0 86 [some (.ref (G.1 22 0)), some (.int (gV σ 23 0 188))] [] τ328
            exact m_vret C hr hlk (by decide) (by decide) dX12_takeStone_86 ⟨rfl, i329, g333, ⟨(by have qd := sto_4 T N cc i (by omega) (by omega) (by omega) (by omega) (by omega); exact Or.inl ⟨by omega, by omega, by omega, by omega, by omega, by omega, v335⟩), v337, v338⟩⟩
          · skip
            exfalso; omega
          · skip
            exfalso; omega
        · skip
          have q348 : 0 ≤ tV T (tE T N (tE T N i)) ∧ tV T (tE T N (tE T N i)) ≤ 3 := by omega
          clear h230_1
          have v349 : CuM T N (tE T N (tE T N (tE T N i))) τ224 := ⟨h230_4, h230_5⟩
          clear h230_4
          have b350 : IV (gV τ224 22 0 16) 0 0 := ⟨by omega, by omega⟩
          show MW p l e _ s m args below meth c _ 2 G 0 0 65 [some (.ref (G.1 22 0)), some (.int (gV σ 23 0 188))] [.int x227, .int x202, .ref (G.1 23 0)] τ224
          refine m_goto (tgt := 69) C dX12_takeStone_65 (by decide) ?_
          refine as_23 C b203 (by decide) rfl dX12_takeStone_69 ?_
          refine m_tops (fun τ351 eτ351 => ?_)
          have i352 : Inv τ351 := eτ351 ▸ Inv.putRo i225 (by omega)
          have f353 : Fr MS_X12_takeStoneS AS_X12_takeStoneS σ τ351 := eτ351 ▸ Fr.put (g229) (Or.inr (by decide))
          have v354 : Pb τ351 := v231.put eτ351 (Or.inr (by omega))
          have v355 : TpM τ351 T N := v232.put eτ351 (Or.inl (by decide)) (by decide)
          have v356 : SFm σ τ351 := v233.put eτ351 (by omega)
          have v357 : PrM τ351 pn P := v234.put eτ351 (by omega) (by omega)
          have v358 : LW T N (tE T N (tE T N (tE T N i))) τ351.2.2.1 := by rw [eτ351]; exact h230_6
          have v359 : CuM T N (tE T N (tE T N (tE T N i))) τ351 := CuM.put v349 eτ351 (Or.inl (by decide))
          refine m_aload_n C dX12_takeStone_70 rfl rfl ?_
          refine g_22_0 C q4_116 dX12_takeStone_71 ?_
          refine m_sipush (v := 188) C dX12_takeStone_74 (by decide) ?_
          refine m_dup2 C dX12_takeStone_77 rfl rfl ?_
          refine al_23 C kc_188 (by decide) kn_188 dX12_takeStone_78 ?_
          refine m_eqs (w := (gV σ 23 0 188)) (show gV τ351 23 0 188 = (gV σ 23 0 188) from (gV_putn eτ351 (Or.inr (Or.inr (nat_ne b203 (by decide))))).trans a242) ?_
          refine m_iconst (v := 1) C dX12_takeStone_79 (by decide) ?_
          refine m_iadd C dX12_takeStone_80 ?_
          refine m_topi (fun x360 ex360 => ?_)
          have tx360 : x360.toInt = (gV σ 23 0 188).toInt + 1 := by rw [ex360, ti_addv b10 kc_1 (by decide), kt_1]
          have b361 : IV x360 1 4 := by rw [ex360]; exact iv_add b10 kc_1 (by decide)
          refine as_23 C kc_188 (by decide) kn_188 dX12_takeStone_81 ?_
          refine m_tops (fun τ362 eτ362 => ?_)
          have i363 : Inv τ362 := eτ362 ▸ Inv.putR i352 (by decide) (iv_wk b361 (by decide))
          have f364 : Fr MS_X12_takeStoneS AS_X12_takeStoneS σ τ362 := eτ362 ▸ Fr.put (f353) (Or.inr (by decide))
          have v365 : Pb τ362 := v354.put eτ362 (Or.inr (by omega))
          have v366 : TpM τ362 T N := v355.put eτ362 (Or.inl (by decide)) (by decide)
          have v367 : SFm σ τ362 := v356.put eτ362 (by omega)
          have v368 : PrM τ362 pn P := v357.put eτ362 (by omega) (by omega)
          have v369 : LW T N (tE T N (tE T N (tE T N i))) τ362.2.2.1 := by rw [eτ362]; exact v358
          have v370 : CuM T N (tE T N (tE T N (tE T N i))) τ362 := CuM.put v359 eτ362 (Or.inl (by decide))
          refine m_aload_n C dX12_takeStone_82 rfl rfl ?_
          have a371 : gV τ362 22 0 6 = (gV σ 22 0 6) := (show gV τ362 22 0 6 = (gV σ 22 0 6) from gV_put eτ362 (show gV τ351 22 0 6 = (gV σ 22 0 6) from gV_put eτ351 a236))
          have q372 : (gV τ362 22 0 6).toInt = (gV σ 22 0 6).toInt := congrArg Int32.toInt a371
          have a373 : gV τ362 23 0 150 = (gV σ 23 0 150) := (show gV τ362 23 0 150 = (gV σ 23 0 150) from gV_put eτ362 (show gV τ351 23 0 150 = (gV σ 23 0 150) from (gV_putn eτ351 (Or.inr (Or.inr (nat_ne b203 (by decide))))).trans a238))
          have q374 : (gV τ362 23 0 150).toInt = (gV σ 23 0 150).toInt := congrArg Int32.toInt a373
          have a375 : gV τ362 23 0 152 = (gV σ 23 0 152) := (show gV τ362 23 0 152 = (gV σ 23 0 152) from gV_put eτ362 (show gV τ351 23 0 152 = (gV σ 23 0 152) from (gV_putn eτ351 (Or.inr (Or.inr (nat_ne b203 (by decide))))).trans a240))
          have q376 : (gV τ362 23 0 152).toInt = (gV σ 23 0 152).toInt := congrArg Int32.toInt a375
          have a377 : gV τ362 22 0 11 = (gV τ224 22 0 11) := (show gV τ362 22 0 11 = (gV τ224 22 0 11) from gV_put eτ362 (show gV τ351 22 0 11 = (gV τ224 22 0 11) from gV_put eτ351 rfl))
          have q378 : (gV τ362 22 0 11).toInt = (gV τ224 22 0 11).toInt := congrArg Int32.toInt a377
          have a379 : gV τ362 22 0 12 = (gV τ224 22 0 12) := (show gV τ362 22 0 12 = (gV τ224 22 0 12) from gV_put eτ362 (show gV τ351 22 0 12 = (gV τ224 22 0 12) from gV_put eτ351 rfl))
          have q380 : (gV τ362 22 0 12).toInt = (gV τ224 22 0 12).toInt := congrArg Int32.toInt a379
          have a381 : gV τ362 22 0 16 = (gV τ224 22 0 16) := (show gV τ362 22 0 16 = (gV τ224 22 0 16) from gV_put eτ362 (show gV τ351 22 0 16 = (gV τ224 22 0 16) from gV_put eτ351 rfl))
          have q382 : (gV τ362 22 0 16).toInt = (gV τ224 22 0 16).toInt := congrArg Int32.toInt a381
          have a383 : gV τ362 23 0 188 = x360 := (show gV τ362 23 0 188 = x360 from gV_put eτ362 (gV_self _ _ _ _ _))
          have q384 : (gV τ362 23 0 188).toInt = x360.toInt := congrArg Int32.toInt a383
          refine m_callV (n := 0) (ci := 11) (st := []) C (c_X12_takeSignE l G τ362 T N (tE T N (tE T N (tE T N i)))  i363 v366 (fun _ => v370.1) (by omega)) (by decide) (by decide) rfl rfl rfl q5_15 q5_12 q5_14 q0_32 q1_7 (by decide +kernel) rfl (by decide) (by decide) rfl (Nat.le_of_ble_eq_true rfl) dX12_takeStone_83 ?_
          rintro _ τ385 ⟨rfl, i386, f387, h391⟩
          have g390 : Fr MS_X12_takeStoneS AS_X12_takeStoneS σ τ385 := Fr.call (f364) f387 (by decide)
          have v392 : Pb τ385 := v365.call (fun k => f387.1 23 0 k (by simp) (by decide))
          have v393 : TpM τ385 T N := v366.fr f387 (by decide) (by decide) (by simp) (by decide)
          have v394 : SFm σ τ385 := v367.fr f387 (by simp) (by decide)
          have v395 : PrM τ385 pn P := v368.call (fun k => f387.1 23 0 k (by simp) (by decide))
          have u396 : IV (gV τ385 22 0 11) 0 400 := i386.1 22 0 11
          have a397 : gV τ385 22 0 6 = (gV σ 22 0 6) := (show gV τ385 22 0 6 = (gV σ 22 0 6) from (f387.1 22 0 (6) (by decide) (by decide)).trans a371)
          have q398 : (gV τ385 22 0 6).toInt = (gV σ 22 0 6).toInt := congrArg Int32.toInt a397
          have a399 : gV τ385 23 0 150 = (gV σ 23 0 150) := (show gV τ385 23 0 150 = (gV σ 23 0 150) from (f387.1 23 0 (150) (by decide) (by decide)).trans a373)
          have q400 : (gV τ385 23 0 150).toInt = (gV σ 23 0 150).toInt := congrArg Int32.toInt a399
          have a401 : gV τ385 23 0 152 = (gV σ 23 0 152) := (show gV τ385 23 0 152 = (gV σ 23 0 152) from (f387.1 23 0 (152) (by decide) (by decide)).trans a375)
          have q402 : (gV τ385 23 0 152).toInt = (gV σ 23 0 152).toInt := congrArg Int32.toInt a401
          have a403 : gV τ385 23 0 188 = x360 := (show gV τ385 23 0 188 = x360 from (f387.1 23 0 (188) (by decide) (by decide)).trans a383)
          have q404 : (gV τ385 23 0 188).toInt = x360.toInt := congrArg Int32.toInt a403
          rcases h391 with ⟨h391_0, h391_1, h391_2, h391_3⟩ | ⟨h391_0, h391_1, h391_2, h391_3, h391_4⟩ | ⟨h391_0, h391_1, h391_2, h391_3, h391_4, h391_5⟩
          · skip
            exfalso; omega
          · skip
            have b405 : IV (gV τ385 22 0 16) 1 1 := ⟨by omega, by omega⟩
            show MW p l e _ s m args below meth c _ 2 G 0 0 86 [some (.ref (G.1 22 0)), some (.int (gV σ 23 0 188))] [] τ385
            exact m_vret C hr hlk (by decide) (by decide) dX12_takeStone_86 ⟨rfl, i386, g390, ⟨(by have qd := sto_5 T N cc i (by omega) (by omega) (by omega) (by omega) (by omega) (by omega); exact Or.inl ⟨by omega, by omega, by omega, by omega, by omega, by omega, v392⟩), v394, v395⟩⟩
          · skip
            have b406 : IV (gV τ385 22 0 16) 0 0 := ⟨by omega, by omega⟩
            have v407 : CuM T N (tE T N (tE T N (tE T N (tE T N i)))) τ385 := ⟨h391_3, h391_4⟩
            clear h391_3
            show MW p l e _ s m args below meth c _ 2 G 0 0 86 [some (.ref (G.1 22 0)), some (.int (gV σ 23 0 188))] [] τ385
            exact m_vret C hr hlk (by decide) (by decide) dX12_takeStone_86 ⟨rfl, i386, g390, ⟨(by have qd := sto_ok T N cc i (by omega) (by omega) (by omega) (by omega) (by omega) (by omega); exact Or.inr ⟨by omega, by omega, by omega, v407.1, by omega, by omega, v392, h391_5⟩), v394, v395⟩⟩
  · have f408 : (gV σ 23 0 188).toInt = 4 := by
      have q : _ := c8
      simp only [ti_nle, ti_nlt, ti_le, ti_lt, ti_eq, ti_ne, Classical.not_not, kt_4] at q
      omega
    have b409 : IV (gV σ 23 0 188) 4 4 := ⟨by have q1 := u4; have q2 := kc_4; omega, by have q1 := u4; have q2 := kc_4; omega⟩
    have q410 : (gV σ 22 0 12).toInt = (tS T i : Int) ∧ (gV σ 22 0 12).toInt ≤ 400 := ⟨hcur.1.1, hcur.1.2.2.2.2.2.2⟩
    refine m_aload_n C dX12_takeStone_14 rfl rfl ?_
    refine m_iconst (v := 3) C dX12_takeStone_15 (by decide) ?_
    refine p_22_16 C q4_132 dX12_takeStone_16 ?_
    refine m_tops (fun τ411 eτ411 => ?_)
    have i412 : Inv τ411 := eτ411 ▸ Inv.putF hI (by decide) rfl
    have f413 : Fr MS_X12_takeStoneS AS_X12_takeStoneS σ τ411 := eτ411 ▸ Fr.put (Fr.rf) (Or.inl (by decide))
    have v414 : Pb τ411 := hPb.put eτ411 (Or.inl (by decide))
    have v415 : TpM τ411 T N := hT.put eτ411 (Or.inr (by decide)) (by decide)
    have v416 : SFm σ τ411 := SFm.rf.putO eτ411 (by decide)
    have v417 : PrM τ411 pn P := hpm.2.putO eτ411 (by decide)
    have v418 : τ411.2.2.1 = σ.2.2.1 := by rw [eτ411]; rfl
    have v419 : CuM T N i τ411 := CuM.put hcur eτ411 (Or.inr (by decide))
    have a420 : gV τ411 22 0 11 = (gV σ 22 0 11) := (show gV τ411 22 0 11 = (gV σ 22 0 11) from gV_put eτ411 rfl)
    have q421 : (gV τ411 22 0 11).toInt = (gV σ 22 0 11).toInt := congrArg Int32.toInt a420
    have a422 : gV τ411 22 0 12 = (gV σ 22 0 12) := (show gV τ411 22 0 12 = (gV σ 22 0 12) from gV_put eτ411 rfl)
    have q423 : (gV τ411 22 0 12).toInt = (gV σ 22 0 12).toInt := congrArg Int32.toInt a422
    have a424 : gV τ411 22 0 6 = (gV σ 22 0 6) := (show gV τ411 22 0 6 = (gV σ 22 0 6) from gV_put eτ411 rfl)
    have q425 : (gV τ411 22 0 6).toInt = (gV σ 22 0 6).toInt := congrArg Int32.toInt a424
    have a426 : gV τ411 23 0 150 = (gV σ 23 0 150) := (show gV τ411 23 0 150 = (gV σ 23 0 150) from gV_put eτ411 rfl)
    have q427 : (gV τ411 23 0 150).toInt = (gV σ 23 0 150).toInt := congrArg Int32.toInt a426
    have a428 : gV τ411 23 0 152 = (gV σ 23 0 152) := (show gV τ411 23 0 152 = (gV σ 23 0 152) from gV_put eτ411 rfl)
    have q429 : (gV τ411 23 0 152).toInt = (gV σ 23 0 152).toInt := congrArg Int32.toInt a428
    have a430 : gV τ411 23 0 188 = (gV σ 23 0 188) := (show gV τ411 23 0 188 = (gV σ 23 0 188) from gV_put eτ411 rfl)
    have q431 : (gV τ411 23 0 188).toInt = (gV σ 23 0 188).toInt := congrArg Int32.toInt a430
    have a432 : gV τ411 22 0 16 = 3 := (show gV τ411 22 0 16 = 3 from gV_put eτ411 (gV_self _ _ _ _ _))
    have q433 : (gV τ411 22 0 16).toInt = 3 := (congrArg Int32.toInt a432).trans kt_3
    exact m_vret C hr hlk (by decide) (by decide) dX12_takeStone_19 ⟨rfl, i412, f413, ⟨(by have qd := sto_0 T N cc i (by omega); exact Or.inl ⟨by omega, by omega, by omega, by omega, by omega, by omega, v414⟩), v416, v417⟩⟩
