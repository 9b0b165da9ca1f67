abbrev MS_X12_takeStoneE : List (Nat × Nat) := [(22, 11), (22, 12), (22, 13), (22, 15), (22, 16)]
abbrev AS_X12_takeStoneE : List Nat := [23]
set_option maxHeartbeats 4000000 in
set_option maxRecDepth 100000 in
theorem c_X12_takeStoneE (l : Launch) (G : Gt) (σ : Sg) (T : Nat → Int) (N : Nat) (i : Nat) (cc : Int) (hI : Inv σ) (hT : TpM σ T N) (hcur : CuM T N i σ) (hat : (gV σ 22 0 11).toInt ≤ (gV σ 22 0 6).toInt) (htk : tK T N i = 1) (hf0 : (gV σ 22 0 16).toInt = 0) (hPb : Pb σ) (hst : (gV σ 23 0 188).toInt = cc) : Mc l G yX12_takeStone cX12_takeStone 2 none 3 69 0 0 [.ref (G.1 22 0)] σ (PV fun τ => Inv τ ∧ Fr MS_X12_takeStoneE AS_X12_takeStoneE σ τ ∧ ((stoF T N cc i ≠ 0 ∧ ((gV τ 22 0 16).toInt = stoF T N cc i ∧ 1 ≤ (gV τ 22 0 16).toInt ∧ (gV τ 22 0 16).toInt ≤ 3) ∧ ((gV τ 22 0 12).toInt = stoP T N cc i ∧ 0 ≤ (gV τ 22 0 12).toInt ∧ (gV τ 22 0 12).toInt ≤ 400) ∧ ((gV τ 23 0 188).toInt = cc ∨ (gV τ 23 0 188).toInt = cc + 1) ∧ ((gV τ 23 0 150).toInt = (gV σ 23 0 150).toInt ∧ (gV τ 23 0 152).toInt = (gV σ 23 0 152).toInt) ∧ (gV τ 22 0 11).toInt ≤ (gV τ 22 0 6).toInt ∧ Pb τ) ∨ (stoF T N cc i = 0 ∧ (gV τ 22 0 16).toInt = 0 ∧ (gV τ 23 0 188).toInt = cc + 1 ∧ ((gV τ 22 0 12).toInt = (tS T (tE T N (tE T N (tE T N (tE T N i)))) : Int) ∧ (tK T N (tE T N (tE T N (tE T N (tE T N i)))) ≠ 4 → (gV τ 22 0 11).toInt = (tE T N (tE T N (tE T N (tE T N (tE T N i)))) : Int)) ∧ (gV τ 22 0 13).toInt = (tK T N (tE T N (tE T N (tE T N (tE T N i)))) + 4) % 5 ∧ 0 ≤ tK T N (tE T N (tE T N (tE T N (tE T N i)))) ∧ tK T N (tE T N (tE T N (tE T N (tE T N i)))) ≤ 4 ∧ (tK T N (tE T N (tE T N (tE T N (tE T N i)))) = 2 → (gV τ 22 0 15).toInt = tV T (tE T N (tE T N (tE T N (tE T N i))))) ∧ (gV τ 22 0 12).toInt ≤ 400) ∧ ((gV τ 23 0 150).toInt = (gV σ 23 0 150).toInt ∧ (gV τ 23 0 152).toInt = (gV σ 23 0 152).toInt) ∧ (gV τ 22 0 11).toInt ≤ (gV τ 22 0 6).toInt ∧ Pb τ ∧ LW T N (tE T N (tE T N (tE T N (tE T N i)))) τ.2.2.1))) := by
  refine Mc.of (L0 := [some (.ref (G.1 22 0)), none]) (by decide) (Nat.le_of_ble_eq_true rfl) rfl ?_
  intro p e s m args below meth c C hr hlk
  have C : Cx p s m args c cX12_takeStone 2 "LeanTowerModel" := C
  have k0 : (0 : Int32).toInt = 0 := by decide
  have k1 : (1 : Int32).toInt = 1 := by decide
  have u1 : IV (gV σ 22 0 11) 0 400 := hI.1 22 0 11
  have u2 : IV (gV σ 22 0 6) 0 400 := hI.1 22 0 6
  have u3 : IV (gV σ 23 0 152) 0 7 := hI.1 23 0 152
  have u4 : IV (gV σ 23 0 188) 0 4 := hI.1 23 0 188
  have q5 : (gV σ 22 0 6).toInt = (N : Int) := hT.1
  have q6 := hT.2.1
  have b7 : IV (gV σ 22 0 16) 0 0 := ⟨by omega, by omega⟩
  refine m_aload_n C dX12_takeStone_0 rfl rfl ?_
  refine g_22_0 C q4_116 dX12_takeStone_1 ?_
  refine m_sipush (v := 188) C dX12_takeStone_4 (by decide) ?_
  refine al_23 C kc_188 (by decide) kn_188 dX12_takeStone_7 ?_
  refine m_eqs (w := (gV σ 23 0 188)) rfl ?_
  refine m_istore_n (L1 := [some (.ref (G.1 22 0)), some (.int (gV σ 23 0 188))]) C dX12_takeStone_8 rfl (by decide) rfl rfl ?_
  refine m_iload_n C dX12_takeStone_9 rfl rfl ?_
  refine m_iconst (v := 4) C dX12_takeStone_10 (by decide) ?_
  refine m_icmp_ne (tgt := 20) C dX12_takeStone_11 (by decide) (fun c8 => ?_) (fun c8 => ?_)
  · have f9 : (gV σ 23 0 188).toInt ≠ 4 := by
      have q : _ := c8
      simp only [ti_nle, ti_nlt, ti_le, ti_lt, ti_eq, ti_ne, Classical.not_not, kt_4] at q
      omega
    have b10 : IV (gV σ 23 0 188) 0 3 := ⟨by have q1 := u4; have q2 := kc_4; omega, by have q1 := u4; have q2 := kc_4; omega⟩
    refine m_aload_n C dX12_takeStone_20 rfl rfl ?_
    refine m_callV (n := 0) (ci := 11) (st := []) C (c_X12_nextE l G σ T N (tE T N i)  hI hT (by have qc := hcur.1; omega)) (by decide) (by decide) rfl rfl rfl q4_231 q4_228 q4_230 q0_28 q1_7 (by decide +kernel) rfl (by decide) (by decide) rfl (Nat.le_of_ble_eq_true rfl) dX12_takeStone_21 ?_
    rintro _ τ11 ⟨rfl, i12, f13, h17⟩
    have g16 : Fr MS_X12_takeStoneE AS_X12_takeStoneE σ τ11 := Fr.call (Fr.rf) f13 (by decide)
    have v18 : Pb τ11 := hPb.call (fun k => f13.1 23 0 k (by simp) (by decide))
    have v19 : TpM τ11 T N := hT.fr f13 (by decide) (by decide) (by simp) (by decide)
    obtain ⟨h20, h22, v21⟩ := h17
    have v23 : CuM T N (tE T N i) τ11 := ⟨h20, h22⟩
    clear h20
    have u24 : IV (gV τ11 22 0 11) 0 400 := i12.1 22 0 11
    have a25 : gV τ11 22 0 16 = (gV σ 22 0 16) := (show gV τ11 22 0 16 = (gV σ 22 0 16) from (f13.1 22 0 (16) (by decide) (by decide)).trans rfl)
    have q26 : (gV τ11 22 0 16).toInt = (gV σ 22 0 16).toInt := congrArg Int32.toInt a25
    have a27 : gV τ11 22 0 6 = (gV σ 22 0 6) := (show gV τ11 22 0 6 = (gV σ 22 0 6) from (f13.1 22 0 (6) (by decide) (by decide)).trans rfl)
    have q28 : (gV τ11 22 0 6).toInt = (gV σ 22 0 6).toInt := congrArg Int32.toInt a27
    have a29 : gV τ11 23 0 150 = (gV σ 23 0 150) := (show gV τ11 23 0 150 = (gV σ 23 0 150) from (f13.1 23 0 (150) (by decide) (by decide)).trans rfl)
    have q30 : (gV τ11 23 0 150).toInt = (gV σ 23 0 150).toInt := congrArg Int32.toInt a29
    have a31 : gV τ11 23 0 152 = (gV σ 23 0 152) := (show gV τ11 23 0 152 = (gV σ 23 0 152) from (f13.1 23 0 (152) (by decide) (by decide)).trans rfl)
    have q32 : (gV τ11 23 0 152).toInt = (gV σ 23 0 152).toInt := congrArg Int32.toInt a31
    have a33 : gV τ11 23 0 188 = (gV σ 23 0 188) := (show gV τ11 23 0 188 = (gV σ 23 0 188) from (f13.1 23 0 (188) (by decide) (by decide)).trans rfl)
    have q34 : (gV τ11 23 0 188).toInt = (gV σ 23 0 188).toInt := congrArg Int32.toInt a33
    show MW p l e _ s m args below meth c _ 2 G 0 0 24 [some (.ref (G.1 22 0)), some (.int (gV σ 23 0 188))] [] τ11
    refine m_aload_n C dX12_takeStone_24 rfl rfl ?_
    refine g_22_0 C q4_116 dX12_takeStone_25 ?_
    refine m_sipush (v := 189) C dX12_takeStone_28 (by decide) ?_
    refine m_iload_n C dX12_takeStone_31 rfl rfl ?_
    refine m_iadd C dX12_takeStone_32 ?_
    refine m_topi (fun x35 ex35 => ?_)
    have tx35 : x35.toInt = 189 + (gV σ 23 0 188).toInt := by rw [ex35, ti_addv kc_189 b10 (by decide), kt_189]
    have b36 : IV x35 189 192 := by rw [ex35]; exact iv_add kc_189 b10 (by decide)
    refine m_aload_n C dX12_takeStone_33 rfl rfl ?_
    refine m_iconst (v := 1) C dX12_takeStone_34 (by decide) ?_
    refine m_bipush (v := 20) C dX12_takeStone_35 (by decide) ?_
    refine m_iconst (v := 1) C dX12_takeStone_37 (by decide) ?_
    have q37 := kt_1
    have q38 := kt_20
    have q39 := kt_1
    refine m_callV (n := 3) (ci := 11) (st := [.int x35, .ref (G.1 23 0)]) C (c_X12_takeNumberE l G τ11 T N (tE T N i) (1) (20) (1) i12 v19 v23.1 (by omega)) (by decide) (by decide) rfl rfl rfl q5_7 q5_4 q5_6 q0_30 q1_7 (by decide +kernel) rfl (by decide) (by decide) rfl (Nat.le_of_ble_eq_true rfl) dX12_takeStone_38 ?_
    rintro _ τ40 ⟨x43, rfl, i41, f42, b44, h46⟩
    have g45 : Fr MS_X12_takeStoneE AS_X12_takeStoneE σ τ40 := Fr.call (g16) f42 (by decide)
    have v47 : Pb τ40 := v18.call (fun k => f42.1 23 0 k (by simp) (by decide))
    have v48 : TpM τ40 T N := v19.fr f42 (by decide) (by decide) (by simp) (by decide)
    have u49 : IV (gV τ40 22 0 11) 0 400 := i41.1 22 0 11
    have a50 : gV τ40 22 0 6 = (gV σ 22 0 6) := (show gV τ40 22 0 6 = (gV σ 22 0 6) from (f42.1 22 0 (6) (by decide) (by decide)).trans a27)
    have q51 : (gV τ40 22 0 6).toInt = (gV σ 22 0 6).toInt := congrArg Int32.toInt a50
    have a52 : gV τ40 23 0 150 = (gV σ 23 0 150) := (show gV τ40 23 0 150 = (gV σ 23 0 150) from (f42.1 23 0 (150) (by decide) (by decide)).trans a29)
    have q53 : (gV τ40 23 0 150).toInt = (gV σ 23 0 150).toInt := congrArg Int32.toInt a52
    have a54 : gV τ40 23 0 152 = (gV σ 23 0 152) := (show gV τ40 23 0 152 = (gV σ 23 0 152) from (f42.1 23 0 (152) (by decide) (by decide)).trans a31)
    have q55 : (gV τ40 23 0 152).toInt = (gV σ 23 0 152).toInt := congrArg Int32.toInt a54
    have a56 : gV τ40 23 0 188 = (gV σ 23 0 188) := (show gV τ40 23 0 188 = (gV σ 23 0 188) from (f42.1 23 0 (188) (by decide) (by decide)).trans a33)
    have q57 : (gV τ40 23 0 188).toInt = (gV σ 23 0 188).toInt := congrArg Int32.toInt a56
    rcases h46 with ⟨h46_0, h46_1, h46_2, h46_3, h46_4⟩ | ⟨h46_0, h46_1, h46_2, h46_3, h46_4, h46_5, h46_6⟩ | ⟨h46_0, h46_1, h46_2, h46_3, h46_4, h46_5, h46_6⟩
    · skip
      have b58 : IV x43 (-1) (-1) := ⟨by omega, by omega⟩
      have b59 : IV (gV τ40 22 0 16) 1 1 := ⟨by omega, by omega⟩
      show MW p l e _ s m args below meth c _ 2 G 0 0 41 [some (.ref (G.1 22 0)), some (.int (gV σ 23 0 188))] [.int x43, .int x35, .ref (G.1 23 0)] τ40
      refine as_23 C b36 (by decide) rfl dX12_takeStone_41 ?_
      refine m_tops (fun τ60 eτ60 => ?_)
      have i61 : Inv τ60 := eτ60 ▸ Inv.putRo i41 (by omega)
      have f62 : Fr MS_X12_takeStoneE AS_X12_takeStoneE σ τ60 := eτ60 ▸ Fr.put (g45) (Or.inr (by decide))
      have v63 : Pb τ60 := v47.put eτ60 (Or.inr (by omega))
      have v64 : TpM τ60 T N := v48.put eτ60 (Or.inl (by decide)) (by decide)
      refine m_aload_n C dX12_takeStone_42 rfl rfl ?_
      refine g_22_0 C q4_116 dX12_takeStone_43 ?_
      refine m_sipush (v := 193) C dX12_takeStone_46 (by decide) ?_
      refine m_iload_n C dX12_takeStone_49 rfl rfl ?_
      refine m_iadd C dX12_takeStone_50 ?_
      refine m_topi (fun x65 ex65 => ?_)
      have tx65 : x65.toInt = 193 + (gV σ 23 0 188).toInt := by rw [ex65, ti_addv kc_193 b10 (by decide), kt_193]
      have b66 : IV x65 193 196 := by rw [ex65]; exact iv_add kc_193 b10 (by decide)
      refine m_aload_n C dX12_takeStone_51 rfl rfl ?_
      refine g_22_16 C q4_132 dX12_takeStone_52 ?_
      refine m_eqs (w := (gV τ40 22 0 16)) (show gV τ60 22 0 16 = (gV τ40 22 0 16) from gV_put eτ60 rfl) ?_
      refine m_if_ne (tgt := 68) C dX12_takeStone_55 (by decide) (fun c67 => ?_) (fun c67 => ?_)
      · have f68 : (gV τ40 22 0 16).toInt ≠ 0 := by
          have q : _ := c67
          simp only [ti_nle, ti_nlt, ti_le, ti_lt, ti_eq, ti_ne, Classical.not_not, kt_0] at q
          omega
        refine m_iconst (v := 0) C dX12_takeStone_68 (by decide) ?_
        refine as_23 C b66 (by decide) rfl dX12_takeStone_69 ?_
        refine m_tops (fun τ69 eτ69 => ?_)
        have i70 : Inv τ69 := eτ69 ▸ Inv.putR0 i61 (by omega) kt_0
        have f71 : Fr MS_X12_takeStoneE AS_X12_takeStoneE σ τ69 := eτ69 ▸ Fr.put (f62) (Or.inr (by decide))
        have v72 : Pb τ69 := v63.put eτ69 (Or.inr (by omega))
        have v73 : TpM τ69 T N := v64.put eτ69 (Or.inl (by decide)) (by decide)
        refine m_aload_n C dX12_takeStone_70 rfl rfl ?_
        refine g_22_0 C q4_116 dX12_takeStone_71 ?_
        refine m_sipush (v := 188) C dX12_takeStone_74 (by decide) ?_
        refine m_dup2 C dX12_takeStone_77 rfl rfl ?_
        refine al_23 C kc_188 (by decide) kn_188 dX12_takeStone_78 ?_
        refine m_eqs (w := (gV σ 23 0 188)) (show gV τ69 23 0 188 = (gV σ 23 0 188) from (gV_putn eτ69 (Or.inr (Or.inr (nat_ne b66 (by decide))))).trans (show gV τ60 23 0 188 = (gV σ 23 0 188) from (gV_putn eτ60 (Or.inr (Or.inr (nat_ne b36 (by decide))))).trans a56)) ?_
        refine m_iconst (v := 1) C dX12_takeStone_79 (by decide) ?_
        refine m_iadd C dX12_takeStone_80 ?_
        refine m_topi (fun x74 ex74 => ?_)
        have tx74 : x74.toInt = (gV σ 23 0 188).toInt + 1 := by rw [ex74, ti_addv b10 kc_1 (by decide), kt_1]
        have b75 : IV x74 1 4 := by rw [ex74]; exact iv_add b10 kc_1 (by decide)
        refine as_23 C kc_188 (by decide) kn_188 dX12_takeStone_81 ?_
        refine m_tops (fun τ76 eτ76 => ?_)
        have i77 : Inv τ76 := eτ76 ▸ Inv.putR i70 (by decide) (iv_wk b75 (by decide))
        have f78 : Fr MS_X12_takeStoneE AS_X12_takeStoneE σ τ76 := eτ76 ▸ Fr.put (f71) (Or.inr (by decide))
        have v79 : Pb τ76 := v72.put eτ76 (Or.inr (by omega))
        have v80 : TpM τ76 T N := v73.put eτ76 (Or.inl (by decide)) (by decide)
        refine m_aload_n C dX12_takeStone_82 rfl rfl ?_
        have a81 : gV τ76 22 0 6 = (gV σ 22 0 6) := (show gV τ76 22 0 6 = (gV σ 22 0 6) from gV_put eτ76 (show gV τ69 22 0 6 = (gV σ 22 0 6) from gV_put eτ69 (show gV τ60 22 0 6 = (gV σ 22 0 6) from gV_put eτ60 a50)))
        have q82 : (gV τ76 22 0 6).toInt = (gV σ 22 0 6).toInt := congrArg Int32.toInt a81
        have a83 : gV τ76 23 0 150 = (gV σ 23 0 150) := (show gV τ76 23 0 150 = (gV σ 23 0 150) from gV_put eτ76 (show gV τ69 23 0 150 = (gV σ 23 0 150) from (gV_putn eτ69 (Or.inr (Or.inr (nat_ne b66 (by decide))))).trans (show gV τ60 23 0 150 = (gV σ 23 0 150) from (gV_putn eτ60 (Or.inr (Or.inr (nat_ne b36 (by decide))))).trans a52)))
        have q84 : (gV τ76 23 0 150).toInt = (gV σ 23 0 150).toInt := congrArg Int32.toInt a83
        have a85 : gV τ76 23 0 152 = (gV σ 23 0 152) := (show gV τ76 23 0 152 = (gV σ 23 0 152) from gV_put eτ76 (show gV τ69 23 0 152 = (gV σ 23 0 152) from (gV_putn eτ69 (Or.inr (Or.inr (nat_ne b66 (by decide))))).trans (show gV τ60 23 0 152 = (gV σ 23 0 152) from (gV_putn eτ60 (Or.inr (Or.inr (nat_ne b36 (by decide))))).trans a54)))
        have q86 : (gV τ76 23 0 152).toInt = (gV σ 23 0 152).toInt := congrArg Int32.toInt a85
        have a87 : gV τ76 22 0 11 = (gV τ40 22 0 11) := (show gV τ76 22 0 11 = (gV τ40 22 0 11) from gV_put eτ76 (show gV τ69 22 0 11 = (gV τ40 22 0 11) from gV_put eτ69 (show gV τ60 22 0 11 = (gV τ40 22 0 11) from gV_put eτ60 rfl)))
        have q88 : (gV τ76 22 0 11).toInt = (gV τ40 22 0 11).toInt := congrArg Int32.toInt a87
        have a89 : gV τ76 22 0 12 = (gV τ40 22 0 12) := (show gV τ76 22 0 12 = (gV τ40 22 0 12) from gV_put eτ76 (show gV τ69 22 0 12 = (gV τ40 22 0 12) from gV_put eτ69 (show gV τ60 22 0 12 = (gV τ40 22 0 12) from gV_put eτ60 rfl)))
        have q90 : (gV τ76 22 0 12).toInt = (gV τ40 22 0 12).toInt := congrArg Int32.toInt a89
        have a91 : gV τ76 22 0 16 = (gV τ40 22 0 16) := (show gV τ76 22 0 16 = (gV τ40 22 0 16) from gV_put eτ76 (show gV τ69 22 0 16 = (gV τ40 22 0 16) from gV_put eτ69 (show gV τ60 22 0 16 = (gV τ40 22 0 16) from gV_put eτ60 rfl)))
        have q92 : (gV τ76 22 0 16).toInt = (gV τ40 22 0 16).toInt := congrArg Int32.toInt a91
        have a93 : gV τ76 23 0 188 = x74 := (show gV τ76 23 0 188 = x74 from gV_put eτ76 (gV_self _ _ _ _ _))
        have q94 : (gV τ76 23 0 188).toInt = x74.toInt := congrArg Int32.toInt a93
        refine m_callV (n := 0) (ci := 11) (st := []) C (c_X12_takeSignE l G τ76 T N (tE T N (tE T N i))  i77 v80 (fun h => absurd h (by omega)) (by omega)) (by decide) (by decide) rfl rfl rfl q5_15 q5_12 q5_14 q0_32 q1_7 (by decide +kernel) rfl (by decide) (by decide) rfl (Nat.le_of_ble_eq_true rfl) dX12_takeStone_83 ?_
        rintro _ τ95 ⟨rfl, i96, f97, h101⟩
        have g100 : Fr MS_X12_takeStoneE AS_X12_takeStoneE σ τ95 := Fr.call (f78) f97 (by decide)
        have v102 : Pb τ95 := v79.call (fun k => f97.1 23 0 k (by simp) (by decide))
        have v103 : TpM τ95 T N := v80.fr f97 (by decide) (by decide) (by simp) (by decide)
        have u104 : IV (gV τ95 22 0 11) 0 400 := i96.1 22 0 11
        have a105 : gV τ95 22 0 6 = (gV σ 22 0 6) := (show gV τ95 22 0 6 = (gV σ 22 0 6) from (f97.1 22 0 (6) (by decide) (by decide)).trans a81)
        have q106 : (gV τ95 22 0 6).toInt = (gV σ 22 0 6).toInt := congrArg Int32.toInt a105
        have a107 : gV τ95 23 0 150 = (gV σ 23 0 150) := (show gV τ95 23 0 150 = (gV σ 23 0 150) from (f97.1 23 0 (150) (by decide) (by decide)).trans a83)
        have q108 : (gV τ95 23 0 150).toInt = (gV σ 23 0 150).toInt := congrArg Int32.toInt a107
        have a109 : gV τ95 23 0 152 = (gV σ 23 0 152) := (show gV τ95 23 0 152 = (gV σ 23 0 152) from (f97.1 23 0 (152) (by decide) (by decide)).trans a85)
        have q110 : (gV τ95 23 0 152).toInt = (gV σ 23 0 152).toInt := congrArg Int32.toInt a109
        have a111 : gV τ95 23 0 188 = x74 := (show gV τ95 23 0 188 = x74 from (f97.1 23 0 (188) (by decide) (by decide)).trans a93)
        have q112 : (gV τ95 23 0 188).toInt = x74.toInt := congrArg Int32.toInt a111
        rcases h101 with ⟨h101_0, h101_1, h101_2, h101_3⟩ | ⟨h101_0, h101_1, h101_2, h101_3, h101_4⟩ | ⟨h101_0, h101_1, h101_2, h101_3, h101_4, h101_5⟩
        · skip
          show MW p l e _ s m args below meth c _ 2 G 0 0 86 [some (.ref (G.1 22 0)), some (.int (gV σ 23 0 188))] [] τ95
          exact m_vret C hr hlk (by decide) (by decide) dX12_takeStone_86 ⟨rfl, i96, g100, (by have qd := sto_1 T N cc i (by omega) (by omega); exact Or.inl ⟨by omega, by omega, by omega, by omega, by omega, by omega, v102⟩)⟩
        · skip
          exfalso; omega
        · skip
          exfalso; omega
      · exfalso
        have q : _ := c67
        simp only [ti_nle, ti_nlt, ti_le, ti_lt, ti_eq, ti_ne, Classical.not_not, kt_0] at q
        have q1 := b59; have q2 := kc_0; omega
    · skip
      have b114 : IV x43 (-1) (-1) := ⟨by omega, by omega⟩
      have b115 : IV (gV τ40 22 0 16) 2 2 := ⟨by omega, by omega⟩
      show MW p l e _ s m args below meth c _ 2 G 0 0 41 [some (.ref (G.1 22 0)), some (.int (gV σ 23 0 188))] [.int x43, .int x35, .ref (G.1 23 0)] τ40
      refine as_23 C b36 (by decide) rfl dX12_takeStone_41 ?_
      refine m_tops (fun τ116 eτ116 => ?_)
      have i117 : Inv τ116 := eτ116 ▸ Inv.putRo i41 (by omega)
      have f118 : Fr MS_X12_takeStoneE AS_X12_takeStoneE σ τ116 := eτ116 ▸ Fr.put (g45) (Or.inr (by decide))
      have v119 : Pb τ116 := v47.put eτ116 (Or.inr (by omega))
      have v120 : TpM τ116 T N := v48.put eτ116 (Or.inl (by decide)) (by decide)
      refine m_aload_n C dX12_takeStone_42 rfl rfl ?_
      refine g_22_0 C q4_116 dX12_takeStone_43 ?_
      refine m_sipush (v := 193) C dX12_takeStone_46 (by decide) ?_
      refine m_iload_n C dX12_takeStone_49 rfl rfl ?_
      refine m_iadd C dX12_takeStone_50 ?_
      refine m_topi (fun x121 ex121 => ?_)
      have tx121 : x121.toInt = 193 + (gV σ 23 0 188).toInt := by rw [ex121, ti_addv kc_193 b10 (by decide), kt_193]
      have b122 : IV x121 193 196 := by rw [ex121]; exact iv_add kc_193 b10 (by decide)
      refine m_aload_n C dX12_takeStone_51 rfl rfl ?_
      refine g_22_16 C q4_132 dX12_takeStone_52 ?_
      refine m_eqs (w := (gV τ40 22 0 16)) (show gV τ116 22 0 16 = (gV τ40 22 0 16) from gV_put eτ116 rfl) ?_
      refine m_if_ne (tgt := 68) C dX12_takeStone_55 (by decide) (fun c123 => ?_) (fun c123 => ?_)
      · have f124 : (gV τ40 22 0 16).toInt ≠ 0 := by
          have q : _ := c123
          simp only [ti_nle, ti_nlt, ti_le, ti_lt, ti_eq, ti_ne, Classical.not_not, kt_0] at q
          omega
        refine m_iconst (v := 0) C dX12_takeStone_68 (by decide) ?_
        refine as_23 C b122 (by decide) rfl dX12_takeStone_69 ?_
        refine m_tops (fun τ125 eτ125 => ?_)
        have i126 : Inv τ125 := eτ125 ▸ Inv.putR0 i117 (by omega) kt_0
        have f127 : Fr MS_X12_takeStoneE AS_X12_takeStoneE σ τ125 := eτ125 ▸ Fr.put (f118) (Or.inr (by decide))
        have v128 : Pb τ125 := v119.put eτ125 (Or.inr (by omega))
        have v129 : TpM τ125 T N := v120.put eτ125 (Or.inl (by decide)) (by decide)
        refine m_aload_n C dX12_takeStone_70 rfl rfl ?_
        refine g_22_0 C q4_116 dX12_takeStone_71 ?_
        refine m_sipush (v := 188) C dX12_takeStone_74 (by decide) ?_
        refine m_dup2 C dX12_takeStone_77 rfl rfl ?_
        refine al_23 C kc_188 (by decide) kn_188 dX12_takeStone_78 ?_
        refine m_eqs (w := (gV σ 23 0 188)) (show gV τ125 23 0 188 = (gV σ 23 0 188) from (gV_putn eτ125 (Or.inr (Or.inr (nat_ne b122 (by decide))))).trans (show gV τ116 23 0 188 = (gV σ 23 0 188) from (gV_putn eτ116 (Or.inr (Or.inr (nat_ne b36 (by decide))))).trans a56)) ?_
        refine m_iconst (v := 1) C dX12_takeStone_79 (by decide) ?_
        refine m_iadd C dX12_takeStone_80 ?_
        refine m_topi (fun x130 ex130 => ?_)
        have tx130 : x130.toInt = (gV σ 23 0 188).toInt + 1 := by rw [ex130, ti_addv b10 kc_1 (by decide), kt_1]
        have b131 : IV x130 1 4 := by rw [ex130]; exact iv_add b10 kc_1 (by decide)
        refine as_23 C kc_188 (by decide) kn_188 dX12_takeStone_81 ?_
        refine m_tops (fun τ132 eτ132 => ?_)
        have i133 : Inv τ132 := eτ132 ▸ Inv.putR i126 (by decide) (iv_wk b131 (by decide))
        have f134 : Fr MS_X12_takeStoneE AS_X12_takeStoneE σ τ132 := eτ132 ▸ Fr.put (f127) (Or.inr (by decide))
        have v135 : Pb τ132 := v128.put eτ132 (Or.inr (by omega))
        have v136 : TpM τ132 T N := v129.put eτ132 (Or.inl (by decide)) (by decide)
        refine m_aload_n C dX12_takeStone_82 rfl rfl ?_
        have a137 : gV τ132 22 0 6 = (gV σ 22 0 6) := (show gV τ132 22 0 6 = (gV σ 22 0 6) from gV_put eτ132 (show gV τ125 22 0 6 = (gV σ 22 0 6) from gV_put eτ125 (show gV τ116 22 0 6 = (gV σ 22 0 6) from gV_put eτ116 a50)))
        have q138 : (gV τ132 22 0 6).toInt = (gV σ 22 0 6).toInt := congrArg Int32.toInt a137
        have a139 : gV τ132 23 0 150 = (gV σ 23 0 150) := (show gV τ132 23 0 150 = (gV σ 23 0 150) from gV_put eτ132 (show gV τ125 23 0 150 = (gV σ 23 0 150) from (gV_putn eτ125 (Or.inr (Or.inr (nat_ne b122 (by decide))))).trans (show gV τ116 23 0 150 = (gV σ 23 0 150) from (gV_putn eτ116 (Or.inr (Or.inr (nat_ne b36 (by decide))))).trans a52)))
        have q140 : (gV τ132 23 0 150).toInt = (gV σ 23 0 150).toInt := congrArg Int32.toInt a139
        have a141 : gV τ132 23 0 152 = (gV σ 23 0 152) := (show gV τ132 23 0 152 = (gV σ 23 0 152) from gV_put eτ132 (show gV τ125 23 0 152 = (gV σ 23 0 152) from (gV_putn eτ125 (Or.inr (Or.inr (nat_ne b122 (by decide))))).trans (show gV τ116 23 0 152 = (gV σ 23 0 152) from (gV_putn eτ116 (Or.inr (Or.inr (nat_ne b36 (by decide))))).trans a54)))
        have q142 : (gV τ132 23 0 152).toInt = (gV σ 23 0 152).toInt := congrArg Int32.toInt a141
        have a143 : gV τ132 22 0 11 = (gV τ40 22 0 11) := (show gV τ132 22 0 11 = (gV τ40 22 0 11) from gV_put eτ132 (show gV τ125 22 0 11 = (gV τ40 22 0 11) from gV_put eτ125 (show gV τ116 22 0 11 = (gV τ40 22 0 11) from gV_put eτ116 rfl)))
        have q144 : (gV τ132 22 0 11).toInt = (gV τ40 22 0 11).toInt := congrArg Int32.toInt a143
        have a145 : gV τ132 22 0 12 = (gV τ40 22 0 12) := (show gV τ132 22 0 12 = (gV τ40 22 0 12) from gV_put eτ132 (show gV τ125 22 0 12 = (gV τ40 22 0 12) from gV_put eτ125 (show gV τ116 22 0 12 = (gV τ40 22 0 12) from gV_put eτ116 rfl)))
        have q146 : (gV τ132 22 0 12).toInt = (gV τ40 22 0 12).toInt := congrArg Int32.toInt a145
        have a147 : gV τ132 22 0 16 = (gV τ40 22 0 16) := (show gV τ132 22 0 16 = (gV τ40 22 0 16) from gV_put eτ132 (show gV τ125 22 0 16 = (gV τ40 22 0 16) from gV_put eτ125 (show gV τ116 22 0 16 = (gV τ40 22 0 16) from gV_put eτ116 rfl)))
        have q148 : (gV τ132 22 0 16).toInt = (gV τ40 22 0 16).toInt := congrArg Int32.toInt a147
        have a149 : gV τ132 23 0 188 = x130 := (show gV τ132 23 0 188 = x130 from gV_put eτ132 (gV_self _ _ _ _ _))
        have q150 : (gV τ132 23 0 188).toInt = x130.toInt := congrArg Int32.toInt a149
        refine m_callV (n := 0) (ci := 11) (st := []) C (c_X12_takeSignE l G τ132 T N (tE T N (tE T N i))  i133 v136 (fun h => absurd h (by omega)) (by omega)) (by decide) (by decide) rfl rfl rfl q5_15 q5_12 q5_14 q0_32 q1_7 (by decide +kernel) rfl (by decide) (by decide) rfl (Nat.le_of_ble_eq_true rfl) dX12_takeStone_83 ?_
        rintro _ τ151 ⟨rfl, i152, f153, h157⟩
        have g156 : Fr MS_X12_takeStoneE AS_X12_takeStoneE σ τ151 := Fr.call (f134) f153 (by decide)
        have v158 : Pb τ151 := v135.call (fun k => f153.1 23 0 k (by simp) (by decide))
        have v159 : TpM τ151 T N := v136.fr f153 (by decide) (by decide) (by simp) (by decide)
        have u160 : IV (gV τ151 22 0 11) 0 400 := i152.1 22 0 11
        have a161 : gV τ151 22 0 6 = (gV σ 22 0 6) := (show gV τ151 22 0 6 = (gV σ 22 0 6) from (f153.1 22 0 (6) (by decide) (by decide)).trans a137)
        have q162 : (gV τ151 22 0 6).toInt = (gV σ 22 0 6).toInt := congrArg Int32.toInt a161
        have a163 : gV τ151 23 0 150 = (gV σ 23 0 150) := (show gV τ151 23 0 150 = (gV σ 23 0 150) from (f153.1 23 0 (150) (by decide) (by decide)).trans a139)
        have q164 : (gV τ151 23 0 150).toInt = (gV σ 23 0 150).toInt := congrArg Int32.toInt a163
        have a165 : gV τ151 23 0 152 = (gV σ 23 0 152) := (show gV τ151 23 0 152 = (gV σ 23 0 152) from (f153.1 23 0 (152) (by decide) (by decide)).trans a141)
        have q166 : (gV τ151 23 0 152).toInt = (gV σ 23 0 152).toInt := congrArg Int32.toInt a165
        have a167 : gV τ151 23 0 188 = x130 := (show gV τ151 23 0 188 = x130 from (f153.1 23 0 (188) (by decide) (by decide)).trans a149)
        have q168 : (gV τ151 23 0 188).toInt = x130.toInt := congrArg Int32.toInt a167
        rcases h157 with ⟨h157_0, h157_1, h157_2, h157_3⟩ | ⟨h157_0, h157_1, h157_2, h157_3, h157_4⟩ | ⟨h157_0, h157_1, h157_2, h157_3, h157_4, h157_5⟩
        · skip
          show MW p l e _ s m args below meth c _ 2 G 0 0 86 [some (.ref (G.1 22 0)), some (.int (gV σ 23 0 188))] [] τ151
          exact m_vret C hr hlk (by decide) (by decide) dX12_takeStone_86 ⟨rfl, i152, g156, (by have qd := sto_2 T N cc i (by omega) (by omega) (by omega); exact Or.inl ⟨by omega, by omega, by omega, by omega, by omega, by omega, v158⟩)⟩
        · skip
          exfalso; omega
        · skip
          exfalso; omega
      · exfalso
        have q : _ := c123
        simp only [ti_nle, ti_nlt, ti_le, ti_lt, ti_eq, ti_ne, Classical.not_not, kt_0] at q
        have q1 := b115; have q2 := kc_0; omega
    · skip
      have q170 : 1 ≤ tV T (tE T N i) ∧ tV T (tE T N i) ≤ 20 := by omega
      clear h46_1
      have v171 : CuM T N (tE T N (tE T N i)) τ40 := ⟨h46_4, h46_5⟩
      clear h46_4
      have b172 : IV (gV τ40 22 0 16) 0 0 := ⟨by omega, by omega⟩
      show MW p l e _ s m args below meth c _ 2 G 0 0 41 [some (.ref (G.1 22 0)), some (.int (gV σ 23 0 188))] [.int x43, .int x35, .ref (G.1 23 0)] τ40
      refine as_23 C b36 (by decide) rfl dX12_takeStone_41 ?_
      refine m_tops (fun τ173 eτ173 => ?_)
      have i174 : Inv τ173 := eτ173 ▸ Inv.putRo i41 (by omega)
      have f175 : Fr MS_X12_takeStoneE AS_X12_takeStoneE σ τ173 := eτ173 ▸ Fr.put (g45) (Or.inr (by decide))
      have v176 : Pb τ173 := v47.put eτ173 (Or.inr (by omega))
      have v177 : TpM τ173 T N := v48.put eτ173 (Or.inl (by decide)) (by decide)
      have v178 : LW T N (tE T N (tE T N i)) τ173.2.2.1 := by rw [eτ173]; exact h46_6
      have v179 : CuM T N (tE T N (tE T N i)) τ173 := CuM.put v171 eτ173 (Or.inl (by decide))
      refine m_aload_n C dX12_takeStone_42 rfl rfl ?_
      refine g_22_0 C q4_116 dX12_takeStone_43 ?_
      refine m_sipush (v := 193) C dX12_takeStone_46 (by decide) ?_
      refine m_iload_n C dX12_takeStone_49 rfl rfl ?_
      refine m_iadd C dX12_takeStone_50 ?_
      refine m_topi (fun x180 ex180 => ?_)
      have tx180 : x180.toInt = 193 + (gV σ 23 0 188).toInt := by rw [ex180, ti_addv kc_193 b10 (by decide), kt_193]
      have b181 : IV x180 193 196 := by rw [ex180]; exact iv_add kc_193 b10 (by decide)
      refine m_aload_n C dX12_takeStone_51 rfl rfl ?_
      refine g_22_16 C q4_132 dX12_takeStone_52 ?_
      refine m_eqs (w := (gV τ40 22 0 16)) (show gV τ173 22 0 16 = (gV τ40 22 0 16) from gV_put eτ173 rfl) ?_
      refine m_if_ne (tgt := 68) C dX12_takeStone_55 (by decide) (fun c182 => ?_) (fun c182 => ?_)
      · exfalso
        have q : _ := c182
        simp only [ti_nle, ti_nlt, ti_le, ti_lt, ti_eq, ti_ne, Classical.not_not, kt_0] at q
        have q1 := b172; have q2 := kc_0; omega
      · have f184 : (gV τ40 22 0 16).toInt = 0 := by
          have q : _ := c182
          simp only [ti_nle, ti_nlt, ti_le, ti_lt, ti_eq, ti_ne, Classical.not_not, kt_0] at q
          omega
        refine m_aload_n C dX12_takeStone_58 rfl rfl ?_
        refine m_iconst (v := 0) C dX12_takeStone_59 (by decide) ?_
        refine m_iconst (v := 3) C dX12_takeStone_60 (by decide) ?_
        refine m_iconst (v := 0) C dX12_takeStone_61 (by decide) ?_
        have a185 : gV τ173 22 0 6 = (gV σ 22 0 6) := (show gV τ173 22 0 6 = (gV σ 22 0 6) from gV_put eτ173 a50)
        have q186 : (gV τ173 22 0 6).toInt = (gV σ 22 0 6).toInt := congrArg Int32.toInt a185
        have a187 : gV τ173 23 0 150 = (gV σ 23 0 150) := (show gV τ173 23 0 150 = (gV σ 23 0 150) from (gV_putn eτ173 (Or.inr (Or.inr (nat_ne b36 (by decide))))).trans a52)
        have q188 : (gV τ173 23 0 150).toInt = (gV σ 23 0 150).toInt := congrArg Int32.toInt a187
        have a189 : gV τ173 23 0 152 = (gV σ 23 0 152) := (show gV τ173 23 0 152 = (gV σ 23 0 152) from (gV_putn eτ173 (Or.inr (Or.inr (nat_ne b36 (by decide))))).trans a54)
        have q190 : (gV τ173 23 0 152).toInt = (gV σ 23 0 152).toInt := congrArg Int32.toInt a189
        have a191 : gV τ173 23 0 188 = (gV σ 23 0 188) := (show gV τ173 23 0 188 = (gV σ 23 0 188) from (gV_putn eτ173 (Or.inr (Or.inr (nat_ne b36 (by decide))))).trans a56)
        have q192 : (gV τ173 23 0 188).toInt = (gV σ 23 0 188).toInt := congrArg Int32.toInt a191
        have a193 : gV τ173 22 0 11 = (gV τ40 22 0 11) := (show gV τ173 22 0 11 = (gV τ40 22 0 11) from gV_put eτ173 rfl)
        have q194 : (gV τ173 22 0 11).toInt = (gV τ40 22 0 11).toInt := congrArg Int32.toInt a193
        have a195 : gV τ173 22 0 12 = (gV τ40 22 0 12) := (show gV τ173 22 0 12 = (gV τ40 22 0 12) from gV_put eτ173 rfl)
        have q196 : (gV τ173 22 0 12).toInt = (gV τ40 22 0 12).toInt := congrArg Int32.toInt a195
        have a197 : gV τ173 22 0 16 = (gV τ40 22 0 16) := (show gV τ173 22 0 16 = (gV τ40 22 0 16) from gV_put eτ173 rfl)
        have q198 : (gV τ173 22 0 16).toInt = (gV τ40 22 0 16).toInt := congrArg Int32.toInt a197
        have q199 := kt_0
        have q200 := kt_3
        have q201 := kt_0
        refine m_callV (n := 3) (ci := 11) (st := [.int x180, .ref (G.1 23 0)]) C (c_X12_takeNumberE l G τ173 T N (tE T N (tE T N i)) (0) (3) (0) i174 v177 v179.1 (by omega)) (by decide) (by decide) rfl rfl rfl q5_7 q5_4 q5_6 q0_30 q1_7 (by decide +kernel) rfl (by decide) (by decide) rfl (Nat.le_of_ble_eq_true rfl) dX12_takeStone_62 ?_
        rintro _ τ202 ⟨x205, rfl, i203, f204, b206, h208⟩
        have g207 : Fr MS_X12_takeStoneE AS_X12_takeStoneE σ τ202 := Fr.call (f175) f204 (by decide)
        have v209 : Pb τ202 := v176.call (fun k => f204.1 23 0 k (by simp) (by decide))
        have v210 : TpM τ202 T N := v177.fr f204 (by decide) (by decide) (by simp) (by decide)
        have u211 : IV (gV τ202 22 0 11) 0 400 := i203.1 22 0 11
        have a212 : gV τ202 22 0 6 = (gV σ 22 0 6) := (show gV τ202 22 0 6 = (gV σ 22 0 6) from (f204.1 22 0 (6) (by decide) (by decide)).trans a185)
        have q213 : (gV τ202 22 0 6).toInt = (gV σ 22 0 6).toInt := congrArg Int32.toInt a212
        have a214 : gV τ202 23 0 150 = (gV σ 23 0 150) := (show gV τ202 23 0 150 = (gV σ 23 0 150) from (f204.1 23 0 (150) (by decide) (by decide)).trans a187)
        have q215 : (gV τ202 23 0 150).toInt = (gV σ 23 0 150).toInt := congrArg Int32.toInt a214
        have a216 : gV τ202 23 0 152 = (gV σ 23 0 152) := (show gV τ202 23 0 152 = (gV σ 23 0 152) from (f204.1 23 0 (152) (by decide) (by decide)).trans a189)
        have q217 : (gV τ202 23 0 152).toInt = (gV σ 23 0 152).toInt := congrArg Int32.toInt a216
        have a218 : gV τ202 23 0 188 = (gV σ 23 0 188) := (show gV τ202 23 0 188 = (gV σ 23 0 188) from (f204.1 23 0 (188) (by decide) (by decide)).trans a191)
        have q219 : (gV τ202 23 0 188).toInt = (gV σ 23 0 188).toInt := congrArg Int32.toInt a218
        rcases h208 with ⟨h208_0, h208_1, h208_2, h208_3, h208_4⟩ | ⟨h208_0, h208_1, h208_2, h208_3, h208_4, h208_5, h208_6⟩ | ⟨h208_0, h208_1, h208_2, h208_3, h208_4, h208_5, h208_6⟩
        · skip
          have b220 : IV x205 (-1) (-1) := ⟨by omega, by omega⟩
          have b221 : IV (gV τ202 22 0 16) 1 1 := ⟨by omega, by omega⟩
          show MW p l e _ s m args below meth c _ 2 G 0 0 65 [some (.ref (G.1 22 0)), some (.int (gV σ 23 0 188))] [.int x205, .int x180, .ref (G.1 23 0)] τ202
          refine m_goto (tgt := 69) C dX12_takeStone_65 (by decide) ?_
          refine as_23 C b181 (by decide) rfl dX12_takeStone_69 ?_
          refine m_tops (fun τ222 eτ222 => ?_)
          have i223 : Inv τ222 := eτ222 ▸ Inv.putRo i203 (by omega)
          have f224 : Fr MS_X12_takeStoneE AS_X12_takeStoneE σ τ222 := eτ222 ▸ Fr.put (g207) (Or.inr (by decide))
          have v225 : Pb τ222 := v209.put eτ222 (Or.inr (by omega))
          have v226 : TpM τ222 T N := v210.put eτ222 (Or.inl (by decide)) (by decide)
          refine m_aload_n C dX12_takeStone_70 rfl rfl ?_
          refine g_22_0 C q4_116 dX12_takeStone_71 ?_
          refine m_sipush (v := 188) C dX12_takeStone_74 (by decide) ?_
          refine m_dup2 C dX12_takeStone_77 rfl rfl ?_
          refine al_23 C kc_188 (by decide) kn_188 dX12_takeStone_78 ?_
          refine m_eqs (w := (gV σ 23 0 188)) (show gV τ222 23 0 188 = (gV σ 23 0 188) from (gV_putn eτ222 (Or.inr (Or.inr (nat_ne b181 (by decide))))).trans a218) ?_
          refine m_iconst (v := 1) C dX12_takeStone_79 (by decide) ?_
          refine m_iadd C dX12_takeStone_80 ?_
          refine m_topi (fun x227 ex227 => ?_)
          have tx227 : x227.toInt = (gV σ 23 0 188).toInt + 1 := by rw [ex227, ti_addv b10 kc_1 (by decide), kt_1]
          have b228 : IV x227 1 4 := by rw [ex227]; exact iv_add b10 kc_1 (by decide)
          refine as_23 C kc_188 (by decide) kn_188 dX12_takeStone_81 ?_
          refine m_tops (fun τ229 eτ229 => ?_)
          have i230 : Inv τ229 := eτ229 ▸ Inv.putR i223 (by decide) (iv_wk b228 (by decide))
          have f231 : Fr MS_X12_takeStoneE AS_X12_takeStoneE σ τ229 := eτ229 ▸ Fr.put (f224) (Or.inr (by decide))
          have v232 : Pb τ229 := v225.put eτ229 (Or.inr (by omega))
          have v233 : TpM τ229 T N := v226.put eτ229 (Or.inl (by decide)) (by decide)
          refine m_aload_n C dX12_takeStone_82 rfl rfl ?_
          have a234 : gV τ229 22 0 6 = (gV σ 22 0 6) := (show gV τ229 22 0 6 = (gV σ 22 0 6) from gV_put eτ229 (show gV τ222 22 0 6 = (gV σ 22 0 6) from gV_put eτ222 a212))
          have q235 : (gV τ229 22 0 6).toInt = (gV σ 22 0 6).toInt := congrArg Int32.toInt a234
          have a236 : gV τ229 23 0 150 = (gV σ 23 0 150) := (show gV τ229 23 0 150 = (gV σ 23 0 150) from gV_put eτ229 (show gV τ222 23 0 150 = (gV σ 23 0 150) from (gV_putn eτ222 (Or.inr (Or.inr (nat_ne b181 (by decide))))).trans a214))
          have q237 : (gV τ229 23 0 150).toInt = (gV σ 23 0 150).toInt := congrArg Int32.toInt a236
          have a238 : gV τ229 23 0 152 = (gV σ 23 0 152) := (show gV τ229 23 0 152 = (gV σ 23 0 152) from gV_put eτ229 (show gV τ222 23 0 152 = (gV σ 23 0 152) from (gV_putn eτ222 (Or.inr (Or.inr (nat_ne b181 (by decide))))).trans a216))
          have q239 : (gV τ229 23 0 152).toInt = (gV σ 23 0 152).toInt := congrArg Int32.toInt a238
          have a240 : gV τ229 22 0 11 = (gV τ202 22 0 11) := (show gV τ229 22 0 11 = (gV τ202 22 0 11) from gV_put eτ229 (show gV τ222 22 0 11 = (gV τ202 22 0 11) from gV_put eτ222 rfl))
          have q241 : (gV τ229 22 0 11).toInt = (gV τ202 22 0 11).toInt := congrArg Int32.toInt a240
          have a242 : gV τ229 22 0 12 = (gV τ202 22 0 12) := (show gV τ229 22 0 12 = (gV τ202 22 0 12) from gV_put eτ229 (show gV τ222 22 0 12 = (gV τ202 22 0 12) from gV_put eτ222 rfl))
          have q243 : (gV τ229 22 0 12).toInt = (gV τ202 22 0 12).toInt := congrArg Int32.toInt a242
          have a244 : gV τ229 22 0 16 = (gV τ202 22 0 16) := (show gV τ229 22 0 16 = (gV τ202 22 0 16) from gV_put eτ229 (show gV τ222 22 0 16 = (gV τ202 22 0 16) from gV_put eτ222 rfl))
          have q245 : (gV τ229 22 0 16).toInt = (gV τ202 22 0 16).toInt := congrArg Int32.toInt a244
          have a246 : gV τ229 23 0 188 = x227 := (show gV τ229 23 0 188 = x227 from gV_put eτ229 (gV_self _ _ _ _ _))
          have q247 : (gV τ229 23 0 188).toInt = x227.toInt := congrArg Int32.toInt a246
          refine m_callV (n := 0) (ci := 11) (st := []) C (c_X12_takeSignE l G τ229 T N (tE T N (tE T N (tE T N i)))  i230 v233 (fun h => absurd h (by omega)) (by omega)) (by decide) (by decide) rfl rfl rfl q5_15 q5_12 q5_14 q0_32 q1_7 (by decide +kernel) rfl (by decide) (by decide) rfl (Nat.le_of_ble_eq_true rfl) dX12_takeStone_83 ?_
          rintro _ τ248 ⟨rfl, i249, f250, h254⟩
          have g253 : Fr MS_X12_takeStoneE AS_X12_takeStoneE σ τ248 := Fr.call (f231) f250 (by decide)
          have v255 : Pb τ248 := v232.call (fun k => f250.1 23 0 k (by simp) (by decide))
          have v256 : TpM τ248 T N := v233.fr f250 (by decide) (by decide) (by simp) (by decide)
          have u257 : IV (gV τ248 22 0 11) 0 400 := i249.1 22 0 11
          have a258 : gV τ248 22 0 6 = (gV σ 22 0 6) := (show gV τ248 22 0 6 = (gV σ 22 0 6) from (f250.1 22 0 (6) (by decide) (by decide)).trans a234)
          have q259 : (gV τ248 22 0 6).toInt = (gV σ 22 0 6).toInt := congrArg Int32.toInt a258
          have a260 : gV τ248 23 0 150 = (gV σ 23 0 150) := (show gV τ248 23 0 150 = (gV σ 23 0 150) from (f250.1 23 0 (150) (by decide) (by decide)).trans a236)
          have q261 : (gV τ248 23 0 150).toInt = (gV σ 23 0 150).toInt := congrArg Int32.toInt a260
          have a262 : gV τ248 23 0 152 = (gV σ 23 0 152) := (show gV τ248 23 0 152 = (gV σ 23 0 152) from (f250.1 23 0 (152) (by decide) (by decide)).trans a238)
          have q263 : (gV τ248 23 0 152).toInt = (gV σ 23 0 152).toInt := congrArg Int32.toInt a262
          have a264 : gV τ248 23 0 188 = x227 := (show gV τ248 23 0 188 = x227 from (f250.1 23 0 (188) (by decide) (by decide)).trans a246)
          have q265 : (gV τ248 23 0 188).toInt = x227.toInt := congrArg Int32.toInt a264
          rcases h254 with ⟨h254_0, h254_1, h254_2, h254_3⟩ | ⟨h254_0, h254_1, h254_2, h254_3, h254_4⟩ | ⟨h254_0, h254_1, h254_2, h254_3, h254_4, h254_5⟩
          · skip
            show MW p l e _ s m args below meth c _ 2 G 0 0 86 [some (.ref (G.1 22 0)), some (.int (gV σ 23 0 188))] [] τ248
            exact m_vret C hr hlk (by decide) (by decide) dX12_takeStone_86 ⟨rfl, i249, g253, (by have qd := sto_3 T N cc i (by omega) (by omega) (by omega) (by omega); exact Or.inl ⟨by omega, by omega, by omega, by omega, by omega, by omega, v255⟩)⟩
          · skip
            exfalso; omega
          · skip
            exfalso; omega
        · skip
          have b266 : IV x205 (-1) (-1) := ⟨by omega, by omega⟩
          have b267 : IV (gV τ202 22 0 16) 2 2 := ⟨by omega, by omega⟩
          show MW p l e _ s m args below meth c _ 2 G 0 0 65 [some (.ref (G.1 22 0)), some (.int (gV σ 23 0 188))] [.int x205, .int x180, .ref (G.1 23 0)] τ202
          refine m_goto (tgt := 69) C dX12_takeStone_65 (by decide) ?_
          refine as_23 C b181 (by decide) rfl dX12_takeStone_69 ?_
          refine m_tops (fun τ268 eτ268 => ?_)
          have i269 : Inv τ268 := eτ268 ▸ Inv.putRo i203 (by omega)
          have f270 : Fr MS_X12_takeStoneE AS_X12_takeStoneE σ τ268 := eτ268 ▸ Fr.put (g207) (Or.inr (by decide))
          have v271 : Pb τ268 := v209.put eτ268 (Or.inr (by omega))
          have v272 : TpM τ268 T N := v210.put eτ268 (Or.inl (by decide)) (by decide)
          refine m_aload_n C dX12_takeStone_70 rfl rfl ?_
          refine g_22_0 C q4_116 dX12_takeStone_71 ?_
          refine m_sipush (v := 188) C dX12_takeStone_74 (by decide) ?_
          refine m_dup2 C dX12_takeStone_77 rfl rfl ?_
          refine al_23 C kc_188 (by decide) kn_188 dX12_takeStone_78 ?_
          refine m_eqs (w := (gV σ 23 0 188)) (show gV τ268 23 0 188 = (gV σ 23 0 188) from (gV_putn eτ268 (Or.inr (Or.inr (nat_ne b181 (by decide))))).trans a218) ?_
          refine m_iconst (v := 1) C dX12_takeStone_79 (by decide) ?_
          refine m_iadd C dX12_takeStone_80 ?_
          refine m_topi (fun x273 ex273 => ?_)
          have tx273 : x273.toInt = (gV σ 23 0 188).toInt + 1 := by rw [ex273, ti_addv b10 kc_1 (by decide), kt_1]
          have b274 : IV x273 1 4 := by rw [ex273]; exact iv_add b10 kc_1 (by decide)
          refine as_23 C kc_188 (by decide) kn_188 dX12_takeStone_81 ?_
          refine m_tops (fun τ275 eτ275 => ?_)
          have i276 : Inv τ275 := eτ275 ▸ Inv.putR i269 (by decide) (iv_wk b274 (by decide))
          have f277 : Fr MS_X12_takeStoneE AS_X12_takeStoneE σ τ275 := eτ275 ▸ Fr.put (f270) (Or.inr (by decide))
          have v278 : Pb τ275 := v271.put eτ275 (Or.inr (by omega))
          have v279 : TpM τ275 T N := v272.put eτ275 (Or.inl (by decide)) (by decide)
          refine m_aload_n C dX12_takeStone_82 rfl rfl ?_
          have a280 : gV τ275 22 0 6 = (gV σ 22 0 6) := (show gV τ275 22 0 6 = (gV σ 22 0 6) from gV_put eτ275 (show gV τ268 22 0 6 = (gV σ 22 0 6) from gV_put eτ268 a212))
          have q281 : (gV τ275 22 0 6).toInt = (gV σ 22 0 6).toInt := congrArg Int32.toInt a280
          have a282 : gV τ275 23 0 150 = (gV σ 23 0 150) := (show gV τ275 23 0 150 = (gV σ 23 0 150) from gV_put eτ275 (show gV τ268 23 0 150 = (gV σ 23 0 150) from (gV_putn eτ268 (Or.inr (Or.inr (nat_ne b181 (by decide))))).trans a214))
          have q283 : (gV τ275 23 0 150).toInt = (gV σ 23 0 150).toInt := congrArg Int32.toInt a282
          have a284 : gV τ275 23 0 152 = (gV σ 23 0 152) := (show gV τ275 23 0 152 = (gV σ 23 0 152) from gV_put eτ275 (show gV τ268 23 0 152 = (gV σ 23 0 152) from (gV_putn eτ268 (Or.inr (Or.inr (nat_ne b181 (by decide))))).trans a216))
          have q285 : (gV τ275 23 0 152).toInt = (gV σ 23 0 152).toInt := congrArg Int32.toInt a284
          have a286 : gV τ275 22 0 11 = (gV τ202 22 0 11) := (show gV τ275 22 0 11 = (gV τ202 22 0 11) from gV_put eτ275 (show gV τ268 22 0 11 = (gV τ202 22 0 11) from gV_put eτ268 rfl))
          have q287 : (gV τ275 22 0 11).toInt = (gV τ202 22 0 11).toInt := congrArg Int32.toInt a286
          have a288 : gV τ275 22 0 12 = (gV τ202 22 0 12) := (show gV τ275 22 0 12 = (gV τ202 22 0 12) from gV_put eτ275 (show gV τ268 22 0 12 = (gV τ202 22 0 12) from gV_put eτ268 rfl))
          have q289 : (gV τ275 22 0 12).toInt = (gV τ202 22 0 12).toInt := congrArg Int32.toInt a288
          have a290 : gV τ275 22 0 16 = (gV τ202 22 0 16) := (show gV τ275 22 0 16 = (gV τ202 22 0 16) from gV_put eτ275 (show gV τ268 22 0 16 = (gV τ202 22 0 16) from gV_put eτ268 rfl))
          have q291 : (gV τ275 22 0 16).toInt = (gV τ202 22 0 16).toInt := congrArg Int32.toInt a290
          have a292 : gV τ275 23 0 188 = x273 := (show gV τ275 23 0 188 = x273 from gV_put eτ275 (gV_self _ _ _ _ _))
          have q293 : (gV τ275 23 0 188).toInt = x273.toInt := congrArg Int32.toInt a292
          refine m_callV (n := 0) (ci := 11) (st := []) C (c_X12_takeSignE l G τ275 T N (tE T N (tE T N (tE T N i)))  i276 v279 (fun h => absurd h (by omega)) (by omega)) (by decide) (by decide) rfl rfl rfl q5_15 q5_12 q5_14 q0_32 q1_7 (by decide +kernel) rfl (by decide) (by decide) rfl (Nat.le_of_ble_eq_true rfl) dX12_takeStone_83 ?_
          rintro _ τ294 ⟨rfl, i295, f296, h300⟩
          have g299 : Fr MS_X12_takeStoneE AS_X12_takeStoneE σ τ294 := Fr.call (f277) f296 (by decide)
          have v301 : Pb τ294 := v278.call (fun k => f296.1 23 0 k (by simp) (by decide))
          have v302 : TpM τ294 T N := v279.fr f296 (by decide) (by decide) (by simp) (by decide)
          have u303 : IV (gV τ294 22 0 11) 0 400 := i295.1 22 0 11
          have a304 : gV τ294 22 0 6 = (gV σ 22 0 6) := (show gV τ294 22 0 6 = (gV σ 22 0 6) from (f296.1 22 0 (6) (by decide) (by decide)).trans a280)
          have q305 : (gV τ294 22 0 6).toInt = (gV σ 22 0 6).toInt := congrArg Int32.toInt a304
          have a306 : gV τ294 23 0 150 = (gV σ 23 0 150) := (show gV τ294 23 0 150 = (gV σ 23 0 150) from (f296.1 23 0 (150) (by decide) (by decide)).trans a282)
          have q307 : (gV τ294 23 0 150).toInt = (gV σ 23 0 150).toInt := congrArg Int32.toInt a306
          have a308 : gV τ294 23 0 152 = (gV σ 23 0 152) := (show gV τ294 23 0 152 = (gV σ 23 0 152) from (f296.1 23 0 (152) (by decide) (by decide)).trans a284)
          have q309 : (gV τ294 23 0 152).toInt = (gV σ 23 0 152).toInt := congrArg Int32.toInt a308
          have a310 : gV τ294 23 0 188 = x273 := (show gV τ294 23 0 188 = x273 from (f296.1 23 0 (188) (by decide) (by decide)).trans a292)
          have q311 : (gV τ294 23 0 188).toInt = x273.toInt := congrArg Int32.toInt a310
          rcases h300 with ⟨h300_0, h300_1, h300_2, h300_3⟩ | ⟨h300_0, h300_1, h300_2, h300_3, h300_4⟩ | ⟨h300_0, h300_1, h300_2, h300_3, h300_4, h300_5⟩
          · skip
            show MW p l e _ s m args below meth c _ 2 G 0 0 86 [some (.ref (G.1 22 0)), some (.int (gV σ 23 0 188))] [] τ294
            exact m_vret C hr hlk (by decide) (by decide) dX12_takeStone_86 ⟨rfl, i295, g299, (by have qd := sto_4 T N cc i (by omega) (by omega) (by omega) (by omega) (by omega); exact Or.inl ⟨by omega, by omega, by omega, by omega, by omega, by omega, v301⟩)⟩
          · skip
            exfalso; omega
          · skip
            exfalso; omega
        · skip
          have q312 : 0 ≤ tV T (tE T N (tE T N i)) ∧ tV T (tE T N (tE T N i)) ≤ 3 := by omega
          clear h208_1
          have v313 : CuM T N (tE T N (tE T N (tE T N i))) τ202 := ⟨h208_4, h208_5⟩
          clear h208_4
          have b314 : IV (gV τ202 22 0 16) 0 0 := ⟨by omega, by omega⟩
          show MW p l e _ s m args below meth c _ 2 G 0 0 65 [some (.ref (G.1 22 0)), some (.int (gV σ 23 0 188))] [.int x205, .int x180, .ref (G.1 23 0)] τ202
          refine m_goto (tgt := 69) C dX12_takeStone_65 (by decide) ?_
          refine as_23 C b181 (by decide) rfl dX12_takeStone_69 ?_
          refine m_tops (fun τ315 eτ315 => ?_)
          have i316 : Inv τ315 := eτ315 ▸ Inv.putRo i203 (by omega)
          have f317 : Fr MS_X12_takeStoneE AS_X12_takeStoneE σ τ315 := eτ315 ▸ Fr.put (g207) (Or.inr (by decide))
          have v318 : Pb τ315 := v209.put eτ315 (Or.inr (by omega))
          have v319 : TpM τ315 T N := v210.put eτ315 (Or.inl (by decide)) (by decide)
          have v320 : LW T N (tE T N (tE T N (tE T N i))) τ315.2.2.1 := by rw [eτ315]; exact h208_6
          have v321 : CuM T N (tE T N (tE T N (tE T N i))) τ315 := CuM.put v313 eτ315 (Or.inl (by decide))
          refine m_aload_n C dX12_takeStone_70 rfl rfl ?_
          refine g_22_0 C q4_116 dX12_takeStone_71 ?_
          refine m_sipush (v := 188) C dX12_takeStone_74 (by decide) ?_
          refine m_dup2 C dX12_takeStone_77 rfl rfl ?_
          refine al_23 C kc_188 (by decide) kn_188 dX12_takeStone_78 ?_
          refine m_eqs (w := (gV σ 23 0 188)) (show gV τ315 23 0 188 = (gV σ 23 0 188) from (gV_putn eτ315 (Or.inr (Or.inr (nat_ne b181 (by decide))))).trans a218) ?_
          refine m_iconst (v := 1) C dX12_takeStone_79 (by decide) ?_
          refine m_iadd C dX12_takeStone_80 ?_
          refine m_topi (fun x322 ex322 => ?_)
          have tx322 : x322.toInt = (gV σ 23 0 188).toInt + 1 := by rw [ex322, ti_addv b10 kc_1 (by decide), kt_1]
          have b323 : IV x322 1 4 := by rw [ex322]; exact iv_add b10 kc_1 (by decide)
          refine as_23 C kc_188 (by decide) kn_188 dX12_takeStone_81 ?_
          refine m_tops (fun τ324 eτ324 => ?_)
          have i325 : Inv τ324 := eτ324 ▸ Inv.putR i316 (by decide) (iv_wk b323 (by decide))
          have f326 : Fr MS_X12_takeStoneE AS_X12_takeStoneE σ τ324 := eτ324 ▸ Fr.put (f317) (Or.inr (by decide))
          have v327 : Pb τ324 := v318.put eτ324 (Or.inr (by omega))
          have v328 : TpM τ324 T N := v319.put eτ324 (Or.inl (by decide)) (by decide)
          have v329 : LW T N (tE T N (tE T N (tE T N i))) τ324.2.2.1 := by rw [eτ324]; exact v320
          have v330 : CuM T N (tE T N (tE T N (tE T N i))) τ324 := CuM.put v321 eτ324 (Or.inl (by decide))
          refine m_aload_n C dX12_takeStone_82 rfl rfl ?_
          have a331 : gV τ324 22 0 6 = (gV σ 22 0 6) := (show gV τ324 22 0 6 = (gV σ 22 0 6) from gV_put eτ324 (show gV τ315 22 0 6 = (gV σ 22 0 6) from gV_put eτ315 a212))
          have q332 : (gV τ324 22 0 6).toInt = (gV σ 22 0 6).toInt := congrArg Int32.toInt a331
          have a333 : gV τ324 23 0 150 = (gV σ 23 0 150) := (show gV τ324 23 0 150 = (gV σ 23 0 150) from gV_put eτ324 (show gV τ315 23 0 150 = (gV σ 23 0 150) from (gV_putn eτ315 (Or.inr (Or.inr (nat_ne b181 (by decide))))).trans a214))
          have q334 : (gV τ324 23 0 150).toInt = (gV σ 23 0 150).toInt := congrArg Int32.toInt a333
          have a335 : gV τ324 23 0 152 = (gV σ 23 0 152) := (show gV τ324 23 0 152 = (gV σ 23 0 152) from gV_put eτ324 (show gV τ315 23 0 152 = (gV σ 23 0 152) from (gV_putn eτ315 (Or.inr (Or.inr (nat_ne b181 (by decide))))).trans a216))
          have q336 : (gV τ324 23 0 152).toInt = (gV σ 23 0 152).toInt := congrArg Int32.toInt a335
          have a337 : gV τ324 22 0 11 = (gV τ202 22 0 11) := (show gV τ324 22 0 11 = (gV τ202 22 0 11) from gV_put eτ324 (show gV τ315 22 0 11 = (gV τ202 22 0 11) from gV_put eτ315 rfl))
          have q338 : (gV τ324 22 0 11).toInt = (gV τ202 22 0 11).toInt := congrArg Int32.toInt a337
          have a339 : gV τ324 22 0 12 = (gV τ202 22 0 12) := (show gV τ324 22 0 12 = (gV τ202 22 0 12) from gV_put eτ324 (show gV τ315 22 0 12 = (gV τ202 22 0 12) from gV_put eτ315 rfl))
          have q340 : (gV τ324 22 0 12).toInt = (gV τ202 22 0 12).toInt := congrArg Int32.toInt a339
          have a341 : gV τ324 22 0 16 = (gV τ202 22 0 16) := (show gV τ324 22 0 16 = (gV τ202 22 0 16) from gV_put eτ324 (show gV τ315 22 0 16 = (gV τ202 22 0 16) from gV_put eτ315 rfl))
          have q342 : (gV τ324 22 0 16).toInt = (gV τ202 22 0 16).toInt := congrArg Int32.toInt a341
          have a343 : gV τ324 23 0 188 = x322 := (show gV τ324 23 0 188 = x322 from gV_put eτ324 (gV_self _ _ _ _ _))
          have q344 : (gV τ324 23 0 188).toInt = x322.toInt := congrArg Int32.toInt a343
          refine m_callV (n := 0) (ci := 11) (st := []) C (c_X12_takeSignE l G τ324 T N (tE T N (tE T N (tE T N i)))  i325 v328 (fun _ => v330.1) (by omega)) (by decide) (by decide) rfl rfl rfl q5_15 q5_12 q5_14 q0_32 q1_7 (by decide +kernel) rfl (by decide) (by decide) rfl (Nat.le_of_ble_eq_true rfl) dX12_takeStone_83 ?_
          rintro _ τ345 ⟨rfl, i346, f347, h351⟩
          have g350 : Fr MS_X12_takeStoneE AS_X12_takeStoneE σ τ345 := Fr.call (f326) f347 (by decide)
          have v352 : Pb τ345 := v327.call (fun k => f347.1 23 0 k (by simp) (by decide))
          have v353 : TpM τ345 T N := v328.fr f347 (by decide) (by decide) (by simp) (by decide)
          have u354 : IV (gV τ345 22 0 11) 0 400 := i346.1 22 0 11
          have a355 : gV τ345 22 0 6 = (gV σ 22 0 6) := (show gV τ345 22 0 6 = (gV σ 22 0 6) from (f347.1 22 0 (6) (by decide) (by decide)).trans a331)
          have q356 : (gV τ345 22 0 6).toInt = (gV σ 22 0 6).toInt := congrArg Int32.toInt a355
          have a357 : gV τ345 23 0 150 = (gV σ 23 0 150) := (show gV τ345 23 0 150 = (gV σ 23 0 150) from (f347.1 23 0 (150) (by decide) (by decide)).trans a333)
          have q358 : (gV τ345 23 0 150).toInt = (gV σ 23 0 150).toInt := congrArg Int32.toInt a357
          have a359 : gV τ345 23 0 152 = (gV σ 23 0 152) := (show gV τ345 23 0 152 = (gV σ 23 0 152) from (f347.1 23 0 (152) (by decide) (by decide)).trans a335)
          have q360 : (gV τ345 23 0 152).toInt = (gV σ 23 0 152).toInt := congrArg Int32.toInt a359
          have a361 : gV τ345 23 0 188 = x322 := (show gV τ345 23 0 188 = x322 from (f347.1 23 0 (188) (by decide) (by decide)).trans a343)
          have q362 : (gV τ345 23 0 188).toInt = x322.toInt := congrArg Int32.toInt a361
          rcases h351 with ⟨h351_0, h351_1, h351_2, h351_3⟩ | ⟨h351_0, h351_1, h351_2, h351_3, h351_4⟩ | ⟨h351_0, h351_1, h351_2, h351_3, h351_4, h351_5⟩
          · skip
            exfalso; omega
          · skip
            have b363 : IV (gV τ345 22 0 16) 1 1 := ⟨by omega, by omega⟩
            show MW p l e _ s m args below meth c _ 2 G 0 0 86 [some (.ref (G.1 22 0)), some (.int (gV σ 23 0 188))] [] τ345
            exact m_vret C hr hlk (by decide) (by decide) dX12_takeStone_86 ⟨rfl, i346, g350, (by have qd := sto_5 T N cc i (by omega) (by omega) (by omega) (by omega) (by omega) (by omega); exact Or.inl ⟨by omega, by omega, by omega, by omega, by omega, by omega, v352⟩)⟩
          · skip
            have b364 : IV (gV τ345 22 0 16) 0 0 := ⟨by omega, by omega⟩
            have v365 : CuM T N (tE T N (tE T N (tE T N (tE T N i)))) τ345 := ⟨h351_3, h351_4⟩
            clear h351_3
            show MW p l e _ s m args below meth c _ 2 G 0 0 86 [some (.ref (G.1 22 0)), some (.int (gV σ 23 0 188))] [] τ345
            exact m_vret C hr hlk (by decide) (by decide) dX12_takeStone_86 ⟨rfl, i346, g350, (by have qd := sto_ok T N cc i (by omega) (by omega) (by omega) (by omega) (by omega) (by omega); exact Or.inr ⟨by omega, by omega, by omega, v365.1, by omega, by omega, v352, h351_5⟩)⟩
  · have f366 : (gV σ 23 0 188).toInt = 4 := by
      have q : _ := c8
      simp only [ti_nle, ti_nlt, ti_le, ti_lt, ti_eq, ti_ne, Classical.not_not, kt_4] at q
      omega
    have b367 : IV (gV σ 23 0 188) 4 4 := ⟨by have q1 := u4; have q2 := kc_4; omega, by have q1 := u4; have q2 := kc_4; omega⟩
    have q368 : (gV σ 22 0 12).toInt = (tS T i : Int) ∧ (gV σ 22 0 12).toInt ≤ 400 := ⟨hcur.1.1, hcur.1.2.2.2.2.2.2⟩
    refine m_aload_n C dX12_takeStone_14 rfl rfl ?_
    refine m_iconst (v := 3) C dX12_takeStone_15 (by decide) ?_
    refine p_22_16 C q4_132 dX12_takeStone_16 ?_
    refine m_tops (fun τ369 eτ369 => ?_)
    have i370 : Inv τ369 := eτ369 ▸ Inv.putF hI (by decide) rfl
    have f371 : Fr MS_X12_takeStoneE AS_X12_takeStoneE σ τ369 := eτ369 ▸ Fr.put (Fr.rf) (Or.inl (by decide))
    have v372 : Pb τ369 := hPb.put eτ369 (Or.inl (by decide))
    have v373 : TpM τ369 T N := hT.put eτ369 (Or.inr (by decide)) (by decide)
    have v374 : τ369.2.2.1 = σ.2.2.1 := by rw [eτ369]; rfl
    have v375 : CuM T N i τ369 := CuM.put hcur eτ369 (Or.inr (by decide))
    have a376 : gV τ369 22 0 11 = (gV σ 22 0 11) := (show gV τ369 22 0 11 = (gV σ 22 0 11) from gV_put eτ369 rfl)
    have q377 : (gV τ369 22 0 11).toInt = (gV σ 22 0 11).toInt := congrArg Int32.toInt a376
    have a378 : gV τ369 22 0 12 = (gV σ 22 0 12) := (show gV τ369 22 0 12 = (gV σ 22 0 12) from gV_put eτ369 rfl)
    have q379 : (gV τ369 22 0 12).toInt = (gV σ 22 0 12).toInt := congrArg Int32.toInt a378
    have a380 : gV τ369 22 0 6 = (gV σ 22 0 6) := (show gV τ369 22 0 6 = (gV σ 22 0 6) from gV_put eτ369 rfl)
    have q381 : (gV τ369 22 0 6).toInt = (gV σ 22 0 6).toInt := congrArg Int32.toInt a380
    have a382 : gV τ369 23 0 150 = (gV σ 23 0 150) := (show gV τ369 23 0 150 = (gV σ 23 0 150) from gV_put eτ369 rfl)
    have q383 : (gV τ369 23 0 150).toInt = (gV σ 23 0 150).toInt := congrArg Int32.toInt a382
    have a384 : gV τ369 23 0 152 = (gV σ 23 0 152) := (show gV τ369 23 0 152 = (gV σ 23 0 152) from gV_put eτ369 rfl)
    have q385 : (gV τ369 23 0 152).toInt = (gV σ 23 0 152).toInt := congrArg Int32.toInt a384
    have a386 : gV τ369 23 0 188 = (gV σ 23 0 188) := (show gV τ369 23 0 188 = (gV σ 23 0 188) from gV_put eτ369 rfl)
    have q387 : (gV τ369 23 0 188).toInt = (gV σ 23 0 188).toInt := congrArg Int32.toInt a386
    have a388 : gV τ369 22 0 16 = 3 := (show gV τ369 22 0 16 = 3 from gV_put eτ369 (gV_self _ _ _ _ _))
    have q389 : (gV τ369 22 0 16).toInt = 3 := (congrArg Int32.toInt a388).trans kt_3
    exact m_vret C hr hlk (by decide) (by decide) dX12_takeStone_19 ⟨rfl, i370, f371, (by have qd := sto_0 T N cc i (by omega); exact Or.inl ⟨by omega, by omega, by omega, by omega, by omega, by omega, v372⟩)⟩

abbrev MS_X12_towerT : List (Nat × Nat) := [(22, 6), (22, 7), (22, 9), (22, 11), (22, 12), (22, 13), (22, 15), (22, 16)]
abbrev AS_X12_towerT : List Nat := [23]
set_option maxHeartbeats 4000000 in
set_option maxRecDepth 100000 in
theorem c_X12_towerT (l : Launch) (G : Gt) (σ : Sg) (T : Nat → Int) (N : Nat) (hI : Inv σ) (hT : TpM σ T N) : Mc l G yX12_tower cX12_tower 2 (some .int) 4 92 0 0 [.ref (G.1 22 0)] σ (PI fun r τ => Inv τ ∧ Fr MS_X12_towerT AS_X12_towerT σ τ ∧ IV r (-1000500) 7 ∧ ((r.toInt = -1000100 - outP T N ∧ outF T N ≠ 0 ∧ (gV τ 22 0 7).toInt = outF T N ∧ (gV τ 22 0 6).toInt = 0) ∨ (r.toInt = outN T N ∧ outF T N = 0 ∧ (gV τ 22 0 7).toInt = (gV σ 22 0 7).toInt ∧ (gV τ 22 0 6).toInt = 0))) := by
  refine Mc.of (L0 := [some (.ref (G.1 22 0)), none]) (by decide) (Nat.le_of_ble_eq_true rfl) rfl ?_
  intro p e s m args below meth c C hr hlk
  have C : Cx p s m args c cX12_tower 2 "LeanTowerModel" := C
  have k0 : (0 : Int32).toInt = 0 := by decide
  have k1 : (1 : Int32).toInt = 1 := by decide
  have J75 : ∀ (n : Nat) (τ : Sg) (q75 : Nat), Inv τ → Fr MS_X12_towerT AS_X12_towerT σ τ → (TpM τ T N) → ((((gV τ 22 0 16).toInt = 0 ∧ CuM T N q75 τ ∧ (gV τ 22 0 11).toInt ≤ (gV τ 22 0 6).toInt ∧ Pb τ ∧ LW T N q75 τ.2.2.1 ∧ SI_ T N (gV τ 23 0 152).toInt.toNat (gV τ 23 0 188).toInt.toNat q75) ∨ ((1 ≤ (gV τ 22 0 16).toInt ∧ (gV τ 22 0 16).toInt ≤ 3) ∧ outF T N = (gV τ 22 0 16).toInt ∧ ((gV τ 22 0 12).toInt = outP T N ∧ 0 ≤ outP T N ∧ (gV τ 22 0 12).toInt ≤ 400) ∧ (gV τ 22 0 11).toInt ≤ (gV τ 22 0 6).toInt ∧ 0 ≤ (gV τ 23 0 152).toInt ∧ (gV τ 23 0 152).toInt ≤ 7 ∧ 0 ≤ (gV τ 23 0 188).toInt ∧ (gV τ 23 0 188).toInt ≤ 4))) → (2 * (5 - (gV τ 23 0 188).toInt) + 1 - min 1 (max (gV τ 22 0 16).toInt (-(gV τ 22 0 16).toInt))).toNat < n → MW p l e { frames := 4, cells := 0, slots := 0, locals := 92 } s m args below meth c (MQ below (QP G (PI fun r τ => Inv τ ∧ Fr MS_X12_towerT AS_X12_towerT σ τ ∧ IV r (-1000500) 7 ∧ ((r.toInt = -1000100 - outP T N ∧ outF T N ≠ 0 ∧ (gV τ 22 0 7).toInt = outF T N ∧ (gV τ 22 0 6).toInt = 0) ∨ (r.toInt = outN T N ∧ outF T N = 0 ∧ (gV τ 22 0 7).toInt = (gV σ 22 0 7).toInt ∧ (gV τ 22 0 6).toInt = 0)))) args s 0 0 (aG G)) 2 G 0 0 75 [some (.ref (G.1 22 0)), none] [] τ := by
    intro n
    induction n with
    | zero => intro τ q75 iτ fτ v_T nR hm; exact absurd hm (Nat.not_lt_zero _)
    | succ n ih75 =>
      intro τ q75 iτ fτ v_T nR hm75
      have u1 : IV (gV τ 22 0 11) 0 400 := iτ.1 22 0 11
      have u2 : IV (gV τ 22 0 6) 0 400 := iτ.1 22 0 6
      have u3 : IV (gV τ 23 0 152) 0 7 := iτ.1 23 0 152
      have u4 : IV (gV τ 23 0 188) 0 4 := iτ.1 23 0 188
      have u5 : IV (gV τ 23 0 2) 0 7 := iτ.1 23 0 2
      have q6 : (gV τ 22 0 6).toInt = (N : Int) := v_T.1
      have q7 := v_T.2.1
      rcases nR with ⟨n0_, n1_, n2_, nb, nw, nP⟩ | ⟨n0_, n1_, n2_, n3_, n4_, n5_, n6_, n7_⟩
      · skip
        have b8 : IV (gV τ 22 0 16) 0 0 := ⟨by omega, by omega⟩
        refine m_aload_n C dX12_tower_75 rfl rfl ?_
        refine g_22_16 C q4_132 dX12_tower_76 ?_
        refine m_eqs (w := (gV τ 22 0 16)) rfl ?_
        refine m_if_ne (tgt := 107) C dX12_tower_79 (by decide) (fun c9 => ?_) (fun c9 => ?_)
        · exfalso
          have q : _ := c9
          simp only [ti_nle, ti_nlt, ti_le, ti_lt, ti_eq, ti_ne, Classical.not_not, kt_0] at q
          have q1 := b8; have q2 := kc_0; omega
        · have f11 : (gV τ 22 0 16).toInt = 0 := by
            have q : _ := c9
            simp only [ti_nle, ti_nlt, ti_le, ti_lt, ti_eq, ti_ne, Classical.not_not, kt_0] at q
            omega
          refine m_aload_n C dX12_tower_82 rfl rfl ?_
          refine g_22_13 C q4_129 dX12_tower_83 ?_
          refine m_topi (fun x12 ex12 => ?_)
          have q13 : (x12.toInt = 0 ↔ tK T N q75 = 1) := by have qc := n1_.1; rw [ex12]; omega
          have q14 : (x12.toInt = 4 ↔ tK T N q75 = 0) := by have qc := n1_.1; rw [ex12]; omega
          refine m_if_ne (tgt := 107) C dX12_tower_86 (by decide) (fun c15 => ?_) (fun c15 => ?_)
          · have f16 : x12.toInt ≠ 0 := by
              have q : _ := c15
              simp only [ti_nle, ti_nlt, ti_le, ti_lt, ti_eq, ti_ne, Classical.not_not, kt_0] at q
              omega
            have q17 := nP.no (by omega)
            have q18 : (gV τ 22 0 12).toInt = (tS T q75 : Int) ∧ (gV τ 22 0 12).toInt ≤ 400 := ⟨n1_.1.1, n1_.1.2.2.2.2.2.2⟩
            refine m_aload_n C dX12_tower_107 rfl rfl ?_
            refine m_aload_n C dX12_tower_108 rfl rfl ?_
            refine g_22_16 C q4_132 dX12_tower_109 ?_
            refine m_eqs (w := (gV τ 22 0 16)) rfl ?_
            refine m_if_ne (tgt := 127) C dX12_tower_112 (by decide) (fun c19 => ?_) (fun c19 => ?_)
            · exfalso
              have q : _ := c19
              simp only [ti_nle, ti_nlt, ti_le, ti_lt, ti_eq, ti_ne, Classical.not_not, kt_0] at q
              have q1 := b8; have q2 := kc_0; omega
            · have f21 : (gV τ 22 0 16).toInt = 0 := by
                have q : _ := c19
                simp only [ti_nle, ti_nlt, ti_le, ti_lt, ti_eq, ti_ne, Classical.not_not, kt_0] at q
                omega
              refine m_aload_n C dX12_tower_115 rfl rfl ?_
              refine g_22_13 C q4_129 dX12_tower_116 ?_
              refine m_eqs (w := x12) ex12.symm ?_
              have q22 : (x12.toInt = 0 ↔ tK T N q75 = 1) := by have qc := n1_.1; rw [ex12]; omega
              have q23 : (x12.toInt = 4 ↔ tK T N q75 = 0) := by have qc := n1_.1; rw [ex12]; omega
              refine m_iconst (v := 4) C dX12_tower_119 (by decide) ?_
              refine m_icmp_eq (tgt := 127) C dX12_tower_120 (by decide) (fun c24 => ?_) (fun c24 => ?_)
              · have f25 : x12.toInt = 4 := by
                  have q : _ := c24
                  simp only [ti_nle, ti_nlt, ti_le, ti_lt, ti_eq, ti_ne, Classical.not_not, kt_4] at q
                  omega
                have b26 : IV x12 4 4 := ⟨by have q1 := (iv_any x12); have q2 := kc_4; omega, by have q1 := (iv_any x12); have q2 := kc_4; omega⟩
                refine m_aload_n C dX12_tower_127 rfl rfl ?_
                refine g_22_16 C q4_132 dX12_tower_128 ?_
                refine m_eqs (w := (gV τ 22 0 16)) rfl ?_
                refine p_22_16 C q4_132 dX12_tower_131 ?_
                refine m_tops (fun τ27 eτ27 => ?_)
                have i28 : Inv τ27 := eτ27 ▸ Inv.putF iτ (by decide) rfl
                have f29 : Fr MS_X12_towerT AS_X12_towerT σ τ27 := eτ27 ▸ Fr.put (fτ) (Or.inl (by decide))
                have v30 : TpM τ27 T N := v_T.put eτ27 (Or.inr (by decide)) (by decide)
                have v31 : τ27.2.2.1 = τ.2.2.1 := by rw [eτ27]; rfl
                have v32 : LW T N q75 τ27.2.2.1 := by rw [eτ27]; exact nw
                have v33 : CuM T N q75 τ27 := CuM.put n1_ eτ27 (Or.inr (by decide))
                have v34 : Pb τ27 := nb.put eτ27 (Or.inl (by decide))
                refine m_aload_n C dX12_tower_134 rfl rfl ?_
                refine m_iconst (v := 0) C dX12_tower_135 (by decide) ?_
                refine p_22_6 C q4_122 dX12_tower_136 ?_
                refine m_tops (fun τ35 eτ35 => ?_)
                have i36 : Inv τ35 := eτ35 ▸ Inv.put i28 (by decide) (iv_wk kc_0 (by decide))
                have f37 : Fr MS_X12_towerT AS_X12_towerT σ τ35 := eτ35 ▸ Fr.put (f29) (Or.inl (by decide))
                have v39 : τ35.2.2.1 = τ.2.2.1 := by rw [eτ35]; exact v31
                have v40 : LW T N q75 τ35.2.2.1 := by rw [eτ35]; exact v32
                have v41 : Pb τ35 := v34.put eτ35 (Or.inl (by decide))
                refine m_aload_n C dX12_tower_139 rfl rfl ?_
                refine g_22_16 C q4_132 dX12_tower_140 ?_
                refine m_eqs (w := (gV τ 22 0 16)) (show gV τ35 22 0 16 = (gV τ 22 0 16) from gV_put eτ35 (show gV τ27 22 0 16 = (gV τ 22 0 16) from gV_put eτ27 (gV_self _ _ _ _ _))) ?_
                refine m_if_eq (tgt := 162) C dX12_tower_143 (by decide) (fun c42 => ?_) (fun c42 => ?_)
                · have f43 : (gV τ 22 0 16).toInt = 0 := by
                    have q : _ := c42
                    simp only [ti_nle, ti_nlt, ti_le, ti_lt, ti_eq, ti_ne, Classical.not_not, kt_0] at q
                    omega
                  refine m_aload_n C dX12_tower_162 rfl rfl ?_
                  refine m_sipush (v := 150) C dX12_tower_163 (by decide) ?_
                  refine m_iconst (v := 0) C dX12_tower_166 (by decide) ?_
                  have a44 : gV τ35 22 0 11 = (gV τ 22 0 11) := (show gV τ35 22 0 11 = (gV τ 22 0 11) from gV_put eτ35 (show gV τ27 22 0 11 = (gV τ 22 0 11) from gV_put eτ27 rfl))
                  have q45 : (gV τ35 22 0 11).toInt = (gV τ 22 0 11).toInt := congrArg Int32.toInt a44
                  have a46 : gV τ35 22 0 12 = (gV τ 22 0 12) := (show gV τ35 22 0 12 = (gV τ 22 0 12) from gV_put eτ35 (show gV τ27 22 0 12 = (gV τ 22 0 12) from gV_put eτ27 rfl))
                  have q47 : (gV τ35 22 0 12).toInt = (gV τ 22 0 12).toInt := congrArg Int32.toInt a46
                  have a48 : gV τ35 22 0 7 = (gV τ 22 0 7) := (show gV τ35 22 0 7 = (gV τ 22 0 7) from gV_put eτ35 (show gV τ27 22 0 7 = (gV τ 22 0 7) from gV_put eτ27 rfl))
                  have q49 : (gV τ35 22 0 7).toInt = (gV τ 22 0 7).toInt := congrArg Int32.toInt a48
                  have a50 : gV τ35 23 0 150 = (gV τ 23 0 150) := (show gV τ35 23 0 150 = (gV τ 23 0 150) from gV_put eτ35 (show gV τ27 23 0 150 = (gV τ 23 0 150) from gV_put eτ27 rfl))
                  have q51 : (gV τ35 23 0 150).toInt = (gV τ 23 0 150).toInt := congrArg Int32.toInt a50
                  have a52 : gV τ35 23 0 152 = (gV τ 23 0 152) := (show gV τ35 23 0 152 = (gV τ 23 0 152) from gV_put eτ35 (show gV τ27 23 0 152 = (gV τ 23 0 152) from gV_put eτ27 rfl))
                  have q53 : (gV τ35 23 0 152).toInt = (gV τ 23 0 152).toInt := congrArg Int32.toInt a52
                  have a54 : gV τ35 23 0 188 = (gV τ 23 0 188) := (show gV τ35 23 0 188 = (gV τ 23 0 188) from gV_put eτ35 (show gV τ27 23 0 188 = (gV τ 23 0 188) from gV_put eτ27 rfl))
                  have q55 : (gV τ35 23 0 188).toInt = (gV τ 23 0 188).toInt := congrArg Int32.toInt a54
                  have a56 : gV τ35 23 0 2 = (gV τ 23 0 2) := (show gV τ35 23 0 2 = (gV τ 23 0 2) from gV_put eτ35 (show gV τ27 23 0 2 = (gV τ 23 0 2) from gV_put eτ27 rfl))
                  have q57 : (gV τ35 23 0 2).toInt = (gV τ 23 0 2).toInt := congrArg Int32.toInt a56
                  have a58 : gV τ35 22 0 16 = (gV τ 22 0 16) := (show gV τ35 22 0 16 = (gV τ 22 0 16) from gV_put eτ35 (show gV τ27 22 0 16 = (gV τ 22 0 16) from gV_put eτ27 (gV_self _ _ _ _ _)))
                  have q59 : (gV τ35 22 0 16).toInt = (gV τ 22 0 16).toInt := congrArg Int32.toInt a58
                  have a60 : gV τ35 22 0 6 = 0 := (show gV τ35 22 0 6 = 0 from gV_put eτ35 (gV_self _ _ _ _ _))
                  have q61 : (gV τ35 22 0 6).toInt = 0 := (congrArg Int32.toInt a60).trans kt_0
                  have q62 := kt_150
                  have q63 := kt_0
                  refine m_callV (n := 2) (ci := 11) (st := []) C (c_X12_copyAll l G τ35 (150) (0) i36 (iv_wk kc_150 (by decide)) (iv_wk kc_0 (by decide)) (by omega) (by omega) (by omega) (Or.inr v41)) (by decide) (by decide) rfl rfl rfl q5_38 q5_35 q5_37 q0_35 q1_7 (by decide +kernel) rfl (by decide) (by decide) rfl (Nat.le_of_ble_eq_true rfl) dX12_tower_167 ?_
                  rintro _ τ64 ⟨rfl, i65, f66, h70⟩
                  have g69 : Fr MS_X12_towerT AS_X12_towerT σ τ64 := Fr.call (f37) f66 (by decide)
                  have u71 : IV (gV τ64 23 0 152) 0 7 := i65.1 23 0 152
                  have u72 : IV (gV τ64 23 0 188) 0 4 := i65.1 23 0 188
                  have u73 : IV (gV τ64 23 0 2) 0 7 := i65.1 23 0 2
                  have a74 : gV τ64 22 0 11 = (gV τ 22 0 11) := (show gV τ64 22 0 11 = (gV τ 22 0 11) from (f66.1 22 0 (11) (by decide) (by decide)).trans a44)
                  have q75 : (gV τ64 22 0 11).toInt = (gV τ 22 0 11).toInt := congrArg Int32.toInt a74
                  have a76 : gV τ64 22 0 12 = (gV τ 22 0 12) := (show gV τ64 22 0 12 = (gV τ 22 0 12) from (f66.1 22 0 (12) (by decide) (by decide)).trans a46)
                  have q77 : (gV τ64 22 0 12).toInt = (gV τ 22 0 12).toInt := congrArg Int32.toInt a76
                  have a78 : gV τ64 22 0 7 = (gV τ 22 0 7) := (show gV τ64 22 0 7 = (gV τ 22 0 7) from (f66.1 22 0 (7) (by decide) (by decide)).trans a48)
                  have q79 : (gV τ64 22 0 7).toInt = (gV τ 22 0 7).toInt := congrArg Int32.toInt a78
                  have a80 : gV τ64 22 0 16 = (gV τ 22 0 16) := (show gV τ64 22 0 16 = (gV τ 22 0 16) from (f66.1 22 0 (16) (by decide) (by decide)).trans a58)
                  have q81 : (gV τ64 22 0 16).toInt = (gV τ 22 0 16).toInt := congrArg Int32.toInt a80
                  have a82 : gV τ64 22 0 6 = 0 := (show gV τ64 22 0 6 = 0 from (f66.1 22 0 (6) (by decide) (by decide)).trans a60)
                  have q83 : (gV τ64 22 0 6).toInt = 0 := (congrArg Int32.toInt a82).trans kt_0
                  have q84 : (gV τ64 23 0 2).toInt = (gV τ35 23 0 152).toInt := congrArg Int32.toInt (h70.2.1 2 (by decide))
                  show MW p l e _ s m args below meth c _ 2 G 0 0 170 [some (.ref (G.1 22 0)), none] [] τ64
                  refine m_aload_n C dX12_tower_170 rfl rfl ?_
                  refine m_iconst (v := 0) C dX12_tower_171 (by decide) ?_
                  refine p_22_9 C q4_125 dX12_tower_172 ?_
                  refine m_tops (fun τ85 eτ85 => ?_)
                  have i86 : Inv τ85 := eτ85 ▸ Inv.put i65 (by decide) (iv_wk kc_0 (by decide))
                  have f87 : Fr MS_X12_towerT AS_X12_towerT σ τ85 := eτ85 ▸ Fr.put (g69) (Or.inl (by decide))
                  refine m_aload_n C dX12_tower_175 rfl rfl ?_
                  refine g_22_0 C q4_116 dX12_tower_176 ?_
                  refine m_iconst (v := 2) C dX12_tower_179 (by decide) ?_
                  refine al_23 C kc_2 (by decide) kn_2 dX12_tower_180 ?_
                  refine m_eqs (w := (gV τ64 23 0 2)) (show gV τ85 23 0 2 = (gV τ64 23 0 2) from gV_put eτ85 rfl) ?_
                  have a88 : gV τ85 22 0 11 = (gV τ 22 0 11) := (show gV τ85 22 0 11 = (gV τ 22 0 11) from gV_put eτ85 a74)
                  have q89 : (gV τ85 22 0 11).toInt = (gV τ 22 0 11).toInt := congrArg Int32.toInt a88
                  have a90 : gV τ85 22 0 12 = (gV τ 22 0 12) := (show gV τ85 22 0 12 = (gV τ 22 0 12) from gV_put eτ85 a76)
                  have q91 : (gV τ85 22 0 12).toInt = (gV τ 22 0 12).toInt := congrArg Int32.toInt a90
                  have a92 : gV τ85 22 0 7 = (gV τ 22 0 7) := (show gV τ85 22 0 7 = (gV τ 22 0 7) from gV_put eτ85 a78)
                  have q93 : (gV τ85 22 0 7).toInt = (gV τ 22 0 7).toInt := congrArg Int32.toInt a92
                  have a94 : gV τ85 22 0 16 = (gV τ 22 0 16) := (show gV τ85 22 0 16 = (gV τ 22 0 16) from gV_put eτ85 a80)
                  have q95 : (gV τ85 22 0 16).toInt = (gV τ 22 0 16).toInt := congrArg Int32.toInt a94
                  have a96 : gV τ85 22 0 6 = 0 := (show gV τ85 22 0 6 = 0 from gV_put eτ85 a82)
                  have q97 : (gV τ85 22 0 6).toInt = 0 := (congrArg Int32.toInt a96).trans kt_0
                  have a98 : gV τ85 23 0 150 = (gV τ64 23 0 150) := (show gV τ85 23 0 150 = (gV τ64 23 0 150) from gV_put eτ85 rfl)
                  have q99 : (gV τ85 23 0 150).toInt = (gV τ64 23 0 150).toInt := congrArg Int32.toInt a98
                  have a100 : gV τ85 23 0 152 = (gV τ64 23 0 152) := (show gV τ85 23 0 152 = (gV τ64 23 0 152) from gV_put eτ85 rfl)
                  have q101 : (gV τ85 23 0 152).toInt = (gV τ64 23 0 152).toInt := congrArg Int32.toInt a100
                  have a102 : gV τ85 23 0 188 = (gV τ64 23 0 188) := (show gV τ85 23 0 188 = (gV τ64 23 0 188) from gV_put eτ85 rfl)
                  have q103 : (gV τ85 23 0 188).toInt = (gV τ64 23 0 188).toInt := congrArg Int32.toInt a102
                  have a104 : gV τ85 23 0 2 = (gV τ64 23 0 2) := (show gV τ85 23 0 2 = (gV τ64 23 0 2) from gV_put eτ85 rfl)
                  have q105 : (gV τ85 23 0 2).toInt = (gV τ64 23 0 2).toInt := congrArg Int32.toInt a104
                  exact m_iret C hr hlk (by decide) (by decide) dX12_tower_181 ⟨_, rfl, i86, f87, (iv_wk u73 (by decide)), (Or.inr (⟨by omega, by omega, by omega, by omega⟩))⟩
                · exfalso
                  have q : _ := c42
                  simp only [ti_nle, ti_nlt, ti_le, ti_lt, ti_eq, ti_ne, Classical.not_not, kt_0] at q
                  have q1 := b8; have q2 := kc_0; omega
              · have f107 : x12.toInt ≠ 4 := by
                  have q : _ := c24
                  simp only [ti_nle, ti_nlt, ti_le, ti_lt, ti_eq, ti_ne, Classical.not_not, kt_4] at q
                  omega
                refine m_iconst (v := 1) C dX12_tower_123 (by decide) ?_
                refine m_goto (tgt := 131) C dX12_tower_124 (by decide) ?_
                refine p_22_16 C q4_132 dX12_tower_131 ?_
                refine m_tops (fun τ108 eτ108 => ?_)
                have i109 : Inv τ108 := eτ108 ▸ Inv.putF iτ (by decide) rfl
                have f110 : Fr MS_X12_towerT AS_X12_towerT σ τ108 := eτ108 ▸ Fr.put (fτ) (Or.inl (by decide))
                have v111 : TpM τ108 T N := v_T.put eτ108 (Or.inr (by decide)) (by decide)
                have v112 : τ108.2.2.1 = τ.2.2.1 := by rw [eτ108]; rfl
                have v113 : LW T N q75 τ108.2.2.1 := by rw [eτ108]; exact nw
                have v114 : CuM T N q75 τ108 := CuM.put n1_ eτ108 (Or.inr (by decide))
                have v115 : Pb τ108 := nb.put eτ108 (Or.inl (by decide))
                refine m_aload_n C dX12_tower_134 rfl rfl ?_
                refine m_iconst (v := 0) C dX12_tower_135 (by decide) ?_
                refine p_22_6 C q4_122 dX12_tower_136 ?_
                refine m_tops (fun τ116 eτ116 => ?_)
                have i117 : Inv τ116 := eτ116 ▸ Inv.put i109 (by decide) (iv_wk kc_0 (by decide))
                have f118 : Fr MS_X12_towerT AS_X12_towerT σ τ116 := eτ116 ▸ Fr.put (f110) (Or.inl (by decide))
                have v120 : τ116.2.2.1 = τ.2.2.1 := by rw [eτ116]; exact v112
                have v121 : LW T N q75 τ116.2.2.1 := by rw [eτ116]; exact v113
                have v122 : Pb τ116 := v115.put eτ116 (Or.inl (by decide))
                refine m_aload_n C dX12_tower_139 rfl rfl ?_
                refine g_22_16 C q4_132 dX12_tower_140 ?_
                refine m_eqs (w := 1) (show gV τ116 22 0 16 = 1 from gV_put eτ116 (show gV τ108 22 0 16 = 1 from gV_put eτ108 (gV_self _ _ _ _ _))) ?_
                refine m_if_eq (tgt := 162) C dX12_tower_143 (by decide) (fun c123 => ?_) (fun c123 => ?_)
                · first | exact absurd c123 (by decide) | exact absurd (by decide) c123
                · have f125 : 1 ≠ 0 := by
                    have q : _ := c123
                    simp only [ti_nle, ti_nlt, ti_le, ti_lt, ti_eq, ti_ne, Classical.not_not, kt_1, kt_0] at q
                    omega
                  refine m_aload_n C dX12_tower_146 rfl rfl ?_
                  refine m_aload_n C dX12_tower_147 rfl rfl ?_
                  refine g_22_16 C q4_132 dX12_tower_148 ?_
                  refine m_eqs (w := 1) (show gV τ116 22 0 16 = 1 from gV_put eτ116 (show gV τ108 22 0 16 = 1 from gV_put eτ108 (gV_self _ _ _ _ _))) ?_
                  refine p_22_7 C q4_123 dX12_tower_151 ?_
                  refine m_tops (fun τ126 eτ126 => ?_)
                  have i127 : Inv τ126 := eτ126 ▸ Inv.putF i117 (by decide) rfl
                  have f128 : Fr MS_X12_towerT AS_X12_towerT σ τ126 := eτ126 ▸ Fr.put (f118) (Or.inl (by decide))
                  have v129 : τ126.2.2.1 = τ.2.2.1 := by rw [eτ126]; exact v120
                  have v130 : LW T N q75 τ126.2.2.1 := by rw [eτ126]; exact v121
                  have v131 : Pb τ126 := v122.put eτ126 (Or.inl (by decide))
                  refine m_ldc (v := (-1000100)) C dX12_tower_154 q5_34 ?_
                  refine m_aload_n C dX12_tower_156 rfl rfl ?_
                  refine g_22_12 C q4_128 dX12_tower_157 ?_
                  refine m_eqs (w := (gV τ 22 0 12)) (show gV τ126 22 0 12 = (gV τ 22 0 12) from gV_put eτ126 (show gV τ116 22 0 12 = (gV τ 22 0 12) from gV_put eτ116 (show gV τ108 22 0 12 = (gV τ 22 0 12) from gV_put eτ108 rfl))) ?_
                  have a132 : gV τ126 22 0 11 = (gV τ 22 0 11) := (show gV τ126 22 0 11 = (gV τ 22 0 11) from gV_put eτ126 (show gV τ116 22 0 11 = (gV τ 22 0 11) from gV_put eτ116 (show gV τ108 22 0 11 = (gV τ 22 0 11) from gV_put eτ108 rfl)))
                  have q133 : (gV τ126 22 0 11).toInt = (gV τ 22 0 11).toInt := congrArg Int32.toInt a132
                  have a134 : gV τ126 22 0 12 = (gV τ 22 0 12) := (show gV τ126 22 0 12 = (gV τ 22 0 12) from gV_put eτ126 (show gV τ116 22 0 12 = (gV τ 22 0 12) from gV_put eτ116 (show gV τ108 22 0 12 = (gV τ 22 0 12) from gV_put eτ108 rfl)))
                  have q135 : (gV τ126 22 0 12).toInt = (gV τ 22 0 12).toInt := congrArg Int32.toInt a134
                  have a136 : gV τ126 23 0 150 = (gV τ 23 0 150) := (show gV τ126 23 0 150 = (gV τ 23 0 150) from gV_put eτ126 (show gV τ116 23 0 150 = (gV τ 23 0 150) from gV_put eτ116 (show gV τ108 23 0 150 = (gV τ 23 0 150) from gV_put eτ108 rfl)))
                  have q137 : (gV τ126 23 0 150).toInt = (gV τ 23 0 150).toInt := congrArg Int32.toInt a136
                  have a138 : gV τ126 23 0 152 = (gV τ 23 0 152) := (show gV τ126 23 0 152 = (gV τ 23 0 152) from gV_put eτ126 (show gV τ116 23 0 152 = (gV τ 23 0 152) from gV_put eτ116 (show gV τ108 23 0 152 = (gV τ 23 0 152) from gV_put eτ108 rfl)))
                  have q139 : (gV τ126 23 0 152).toInt = (gV τ 23 0 152).toInt := congrArg Int32.toInt a138
                  have a140 : gV τ126 23 0 188 = (gV τ 23 0 188) := (show gV τ126 23 0 188 = (gV τ 23 0 188) from gV_put eτ126 (show gV τ116 23 0 188 = (gV τ 23 0 188) from gV_put eτ116 (show gV τ108 23 0 188 = (gV τ 23 0 188) from gV_put eτ108 rfl)))
                  have q141 : (gV τ126 23 0 188).toInt = (gV τ 23 0 188).toInt := congrArg Int32.toInt a140
                  have a142 : gV τ126 23 0 2 = (gV τ 23 0 2) := (show gV τ126 23 0 2 = (gV τ 23 0 2) from gV_put eτ126 (show gV τ116 23 0 2 = (gV τ 23 0 2) from gV_put eτ116 (show gV τ108 23 0 2 = (gV τ 23 0 2) from gV_put eτ108 rfl)))
                  have q143 : (gV τ126 23 0 2).toInt = (gV τ 23 0 2).toInt := congrArg Int32.toInt a142
                  have a144 : gV τ126 22 0 16 = 1 := (show gV τ126 22 0 16 = 1 from gV_put eτ126 (show gV τ116 22 0 16 = 1 from gV_put eτ116 (show gV τ108 22 0 16 = 1 from gV_put eτ108 (gV_self _ _ _ _ _))))
                  have q145 : (gV τ126 22 0 16).toInt = 1 := (congrArg Int32.toInt a144).trans kt_1
                  have a146 : gV τ126 22 0 6 = 0 := (show gV τ126 22 0 6 = 0 from gV_put eτ126 (show gV τ116 22 0 6 = 0 from gV_put eτ116 (gV_self _ _ _ _ _)))
                  have q147 : (gV τ126 22 0 6).toInt = 0 := (congrArg Int32.toInt a146).trans kt_0
                  have a148 : gV τ126 22 0 7 = 1 := (show gV τ126 22 0 7 = 1 from gV_put eτ126 (gV_self _ _ _ _ _))
                  have q149 : (gV τ126 22 0 7).toInt = 1 := (congrArg Int32.toInt a148).trans kt_1
                  have b150 : IV (gV τ 22 0 12) 0 400 := ⟨by have q1 := (iv_any (gV τ 22 0 12)); omega, by have q1 := (iv_any (gV τ 22 0 12)); omega⟩
                  refine m_isub C dX12_tower_160 ?_
                  refine m_topi (fun x151 ex151 => ?_)
                  have tx151 : x151.toInt = -1000100 - (gV τ 22 0 12).toInt := by rw [ex151, ti_subv kc_m1000100 b150 (by decide), kt_m1000100]
                  have b152 : IV x151 (-1000500) (-1000100) := by rw [ex151]; exact iv_sub kc_m1000100 b150 (by decide)
                  exact m_iret C hr hlk (by decide) (by decide) dX12_tower_161 ⟨_, rfl, i127, f128, (iv_wk b152 (by decide)), (Or.inl ⟨by omega, by omega, by omega, by omega⟩)⟩
          · have f153 : x12.toInt = 0 := by
              have q : _ := c15
              simp only [ti_nle, ti_nlt, ti_le, ti_lt, ti_eq, ti_ne, Classical.not_not, kt_0] at q
              omega
            have b154 : IV x12 0 0 := ⟨by have q1 := (iv_any x12); have q2 := kc_0; omega, by have q1 := (iv_any x12); have q2 := kc_0; omega⟩
            refine m_aload_n C dX12_tower_89 rfl rfl ?_
            refine g_22_14 C q4_130 dX12_tower_90 ?_
            refine m_topl (fun w155 ew155 => ?_)
            have q156 : tK T N q75 = 1 := by omega
            have q157 : (w155.toInt = 20594117 ↔ tW T N q75 7 = 1) := by rw [ew155]; exact LW.at7 nw q156
            refine m_ldc2 (v := 20594117) C dX12_tower_93 q5_29 ?_
            refine m_lcmp C dX12_tower_96 ?_
            refine m_topi (fun x158 ex158 => ?_)
            have b159 : IV x158 (-1) 1 := by rw [ex158]; rcases lgc w155 20594117 with q | q | q <;> omega
            have f160 := lgc w155 20594117
            rw [← ex158] at f160
            have f162 := kl_20594117
            refine m_if_ne (tgt := 107) C dX12_tower_97 (by decide) (fun c163 => ?_) (fun c163 => ?_)
            · have f164 : x158.toInt ≠ 0 := by
                have q : _ := c163
                simp only [ti_nle, ti_nlt, ti_le, ti_lt, ti_eq, ti_ne, Classical.not_not, kt_0] at q
                omega
              have q165 := nP.no (by omega)
              have q166 : (gV τ 22 0 12).toInt = (tS T q75 : Int) ∧ (gV τ 22 0 12).toInt ≤ 400 := ⟨n1_.1.1, n1_.1.2.2.2.2.2.2⟩
              refine m_aload_n C dX12_tower_107 rfl rfl ?_
              refine m_aload_n C dX12_tower_108 rfl rfl ?_
              refine g_22_16 C q4_132 dX12_tower_109 ?_
              refine m_eqs (w := (gV τ 22 0 16)) rfl ?_
              refine m_if_ne (tgt := 127) C dX12_tower_112 (by decide) (fun c167 => ?_) (fun c167 => ?_)
              · exfalso
                have q : _ := c167
                simp only [ti_nle, ti_nlt, ti_le, ti_lt, ti_eq, ti_ne, Classical.not_not, kt_0] at q
                have q1 := b8; have q2 := kc_0; omega
              · have f169 : (gV τ 22 0 16).toInt = 0 := by
                  have q : _ := c167
                  simp only [ti_nle, ti_nlt, ti_le, ti_lt, ti_eq, ti_ne, Classical.not_not, kt_0] at q
                  omega
                refine m_aload_n C dX12_tower_115 rfl rfl ?_
                refine g_22_13 C q4_129 dX12_tower_116 ?_
                refine m_eqs (w := x12) ex12.symm ?_
                have q170 : (x12.toInt = 0 ↔ tK T N q75 = 1) := by have qc := n1_.1; rw [ex12]; omega
                have q171 : (x12.toInt = 4 ↔ tK T N q75 = 0) := by have qc := n1_.1; rw [ex12]; omega
                refine m_iconst (v := 4) C dX12_tower_119 (by decide) ?_
                refine m_icmp_eq (tgt := 127) C dX12_tower_120 (by decide) (fun c172 => ?_) (fun c172 => ?_)
                · exfalso
                  have q : _ := c172
                  simp only [ti_nle, ti_nlt, ti_le, ti_lt, ti_eq, ti_ne, Classical.not_not, kt_4] at q
                  have q1 := b154; have q2 := kc_4; omega
                · have f174 : x12.toInt ≠ 4 := by
                    have q : _ := c172
                    simp only [ti_nle, ti_nlt, ti_le, ti_lt, ti_eq, ti_ne, Classical.not_not, kt_4] at q
                    omega
                  refine m_iconst (v := 1) C dX12_tower_123 (by decide) ?_
                  refine m_goto (tgt := 131) C dX12_tower_124 (by decide) ?_
                  refine p_22_16 C q4_132 dX12_tower_131 ?_
                  refine m_tops (fun τ175 eτ175 => ?_)
                  have i176 : Inv τ175 := eτ175 ▸ Inv.putF iτ (by decide) rfl
                  have f177 : Fr MS_X12_towerT AS_X12_towerT σ τ175 := eτ175 ▸ Fr.put (fτ) (Or.inl (by decide))
                  have v178 : TpM τ175 T N := v_T.put eτ175 (Or.inr (by decide)) (by decide)
                  have v179 : τ175.2.2.1 = τ.2.2.1 := by rw [eτ175]; rfl
                  have v180 : LW T N q75 τ175.2.2.1 := by rw [eτ175]; exact nw
                  have v181 : CuM T N q75 τ175 := CuM.put n1_ eτ175 (Or.inr (by decide))
                  have v182 : Pb τ175 := nb.put eτ175 (Or.inl (by decide))
                  refine m_aload_n C dX12_tower_134 rfl rfl ?_
                  refine m_iconst (v := 0) C dX12_tower_135 (by decide) ?_
                  refine p_22_6 C q4_122 dX12_tower_136 ?_
                  refine m_tops (fun τ183 eτ183 => ?_)
                  have i184 : Inv τ183 := eτ183 ▸ Inv.put i176 (by decide) (iv_wk kc_0 (by decide))
                  have f185 : Fr MS_X12_towerT AS_X12_towerT σ τ183 := eτ183 ▸ Fr.put (f177) (Or.inl (by decide))
                  have v187 : τ183.2.2.1 = τ.2.2.1 := by rw [eτ183]; exact v179
                  have v188 : LW T N q75 τ183.2.2.1 := by rw [eτ183]; exact v180
                  have v189 : Pb τ183 := v182.put eτ183 (Or.inl (by decide))
                  refine m_aload_n C dX12_tower_139 rfl rfl ?_
                  refine g_22_16 C q4_132 dX12_tower_140 ?_
                  refine m_eqs (w := 1) (show gV τ183 22 0 16 = 1 from gV_put eτ183 (show gV τ175 22 0 16 = 1 from gV_put eτ175 (gV_self _ _ _ _ _))) ?_
                  refine m_if_eq (tgt := 162) C dX12_tower_143 (by decide) (fun c190 => ?_) (fun c190 => ?_)
                  · first | exact absurd c190 (by decide) | exact absurd (by decide) c190
                  · have f192 : 1 ≠ 0 := by
                      have q : _ := c190
                      simp only [ti_nle, ti_nlt, ti_le, ti_lt, ti_eq, ti_ne, Classical.not_not, kt_1, kt_0] at q
                      omega
                    refine m_aload_n C dX12_tower_146 rfl rfl ?_
                    refine m_aload_n C dX12_tower_147 rfl rfl ?_
                    refine g_22_16 C q4_132 dX12_tower_148 ?_
                    refine m_eqs (w := 1) (show gV τ183 22 0 16 = 1 from gV_put eτ183 (show gV τ175 22 0 16 = 1 from gV_put eτ175 (gV_self _ _ _ _ _))) ?_
                    refine p_22_7 C q4_123 dX12_tower_151 ?_
                    refine m_tops (fun τ193 eτ193 => ?_)
                    have i194 : Inv τ193 := eτ193 ▸ Inv.putF i184 (by decide) rfl
                    have f195 : Fr MS_X12_towerT AS_X12_towerT σ τ193 := eτ193 ▸ Fr.put (f185) (Or.inl (by decide))
                    have v196 : τ193.2.2.1 = τ.2.2.1 := by rw [eτ193]; exact v187
                    have v197 : LW T N q75 τ193.2.2.1 := by rw [eτ193]; exact v188
                    have v198 : Pb τ193 := v189.put eτ193 (Or.inl (by decide))
                    refine m_ldc (v := (-1000100)) C dX12_tower_154 q5_34 ?_
                    refine m_aload_n C dX12_tower_156 rfl rfl ?_
                    refine g_22_12 C q4_128 dX12_tower_157 ?_
                    refine m_eqs (w := (gV τ 22 0 12)) (show gV τ193 22 0 12 = (gV τ 22 0 12) from gV_put eτ193 (show gV τ183 22 0 12 = (gV τ 22 0 12) from gV_put eτ183 (show gV τ175 22 0 12 = (gV τ 22 0 12) from gV_put eτ175 rfl))) ?_
                    have a199 : gV τ193 22 0 11 = (gV τ 22 0 11) := (show gV τ193 22 0 11 = (gV τ 22 0 11) from gV_put eτ193 (show gV τ183 22 0 11 = (gV τ 22 0 11) from gV_put eτ183 (show gV τ175 22 0 11 = (gV τ 22 0 11) from gV_put eτ175 rfl)))
                    have q200 : (gV τ193 22 0 11).toInt = (gV τ 22 0 11).toInt := congrArg Int32.toInt a199
                    have a201 : gV τ193 22 0 12 = (gV τ 22 0 12) := (show gV τ193 22 0 12 = (gV τ 22 0 12) from gV_put eτ193 (show gV τ183 22 0 12 = (gV τ 22 0 12) from gV_put eτ183 (show gV τ175 22 0 12 = (gV τ 22 0 12) from gV_put eτ175 rfl)))
                    have q202 : (gV τ193 22 0 12).toInt = (gV τ 22 0 12).toInt := congrArg Int32.toInt a201
                    have a203 : gV τ193 23 0 150 = (gV τ 23 0 150) := (show gV τ193 23 0 150 = (gV τ 23 0 150) from gV_put eτ193 (show gV τ183 23 0 150 = (gV τ 23 0 150) from gV_put eτ183 (show gV τ175 23 0 150 = (gV τ 23 0 150) from gV_put eτ175 rfl)))
                    have q204 : (gV τ193 23 0 150).toInt = (gV τ 23 0 150).toInt := congrArg Int32.toInt a203
                    have a205 : gV τ193 23 0 152 = (gV τ 23 0 152) := (show gV τ193 23 0 152 = (gV τ 23 0 152) from gV_put eτ193 (show gV τ183 23 0 152 = (gV τ 23 0 152) from gV_put eτ183 (show gV τ175 23 0 152 = (gV τ 23 0 152) from gV_put eτ175 rfl)))
                    have q206 : (gV τ193 23 0 152).toInt = (gV τ 23 0 152).toInt := congrArg Int32.toInt a205
                    have a207 : gV τ193 23 0 188 = (gV τ 23 0 188) := (show gV τ193 23 0 188 = (gV τ 23 0 188) from gV_put eτ193 (show gV τ183 23 0 188 = (gV τ 23 0 188) from gV_put eτ183 (show gV τ175 23 0 188 = (gV τ 23 0 188) from gV_put eτ175 rfl)))
                    have q208 : (gV τ193 23 0 188).toInt = (gV τ 23 0 188).toInt := congrArg Int32.toInt a207
                    have a209 : gV τ193 23 0 2 = (gV τ 23 0 2) := (show gV τ193 23 0 2 = (gV τ 23 0 2) from gV_put eτ193 (show gV τ183 23 0 2 = (gV τ 23 0 2) from gV_put eτ183 (show gV τ175 23 0 2 = (gV τ 23 0 2) from gV_put eτ175 rfl)))
                    have q210 : (gV τ193 23 0 2).toInt = (gV τ 23 0 2).toInt := congrArg Int32.toInt a209
                    have a211 : gV τ193 22 0 16 = 1 := (show gV τ193 22 0 16 = 1 from gV_put eτ193 (show gV τ183 22 0 16 = 1 from gV_put eτ183 (show gV τ175 22 0 16 = 1 from gV_put eτ175 (gV_self _ _ _ _ _))))
                    have q212 : (gV τ193 22 0 16).toInt = 1 := (congrArg Int32.toInt a211).trans kt_1
                    have a213 : gV τ193 22 0 6 = 0 := (show gV τ193 22 0 6 = 0 from gV_put eτ193 (show gV τ183 22 0 6 = 0 from gV_put eτ183 (gV_self _ _ _ _ _)))
                    have q214 : (gV τ193 22 0 6).toInt = 0 := (congrArg Int32.toInt a213).trans kt_0
                    have a215 : gV τ193 22 0 7 = 1 := (show gV τ193 22 0 7 = 1 from gV_put eτ193 (gV_self _ _ _ _ _))
                    have q216 : (gV τ193 22 0 7).toInt = 1 := (congrArg Int32.toInt a215).trans kt_1
                    have b217 : IV (gV τ 22 0 12) 0 400 := ⟨by have q1 := (iv_any (gV τ 22 0 12)); omega, by have q1 := (iv_any (gV τ 22 0 12)); omega⟩
                    refine m_isub C dX12_tower_160 ?_
                    refine m_topi (fun x218 ex218 => ?_)
                    have tx218 : x218.toInt = -1000100 - (gV τ 22 0 12).toInt := by rw [ex218, ti_subv kc_m1000100 b217 (by decide), kt_m1000100]
                    have b219 : IV x218 (-1000500) (-1000100) := by rw [ex218]; exact iv_sub kc_m1000100 b217 (by decide)
                    exact m_iret C hr hlk (by decide) (by decide) dX12_tower_161 ⟨_, rfl, i194, f195, (iv_wk b219 (by decide)), (Or.inl ⟨by omega, by omega, by omega, by omega⟩)⟩
            · have f220 : x158.toInt = 0 := by
                have q : _ := c163
                simp only [ti_nle, ti_nlt, ti_le, ti_lt, ti_eq, ti_ne, Classical.not_not, kt_0] at q
                omega
              have b221 : IV x158 0 0 := ⟨by have q1 := b159; have q2 := kc_0; omega, by have q1 := b159; have q2 := kc_0; omega⟩
              refine m_aload_n C dX12_tower_100 rfl rfl ?_
              refine m_callV (n := 0) (ci := 11) (st := []) C (c_X12_takeStoneE l G τ T N q75 ((gV τ 23 0 188).toInt.toNat : Nat)  iτ v_T n1_ (by omega) (by omega) (by omega) nb (by omega)) (by decide) (by decide) rfl rfl rfl q5_33 q5_30 q5_32 q0_34 q1_7 (by decide +kernel) rfl (by decide) (by decide) rfl (Nat.le_of_ble_eq_true rfl) dX12_tower_101 ?_
              rintro _ τ222 ⟨rfl, i223, f224, h228⟩
              have g227 : Fr MS_X12_towerT AS_X12_towerT σ τ222 := Fr.call (fτ) f224 (by decide)
              have v229 : TpM τ222 T N := v_T.fr f224 (by decide) (by decide) (by simp) (by decide)
              have u230 : IV (gV τ222 22 0 11) 0 400 := i223.1 22 0 11
              have u231 : IV (gV τ222 23 0 152) 0 7 := i223.1 23 0 152
              have u232 : IV (gV τ222 23 0 188) 0 4 := i223.1 23 0 188
              have u233 : IV (gV τ222 23 0 2) 0 7 := i223.1 23 0 2
              have a234 : gV τ222 22 0 6 = (gV τ 22 0 6) := (show gV τ222 22 0 6 = (gV τ 22 0 6) from (f224.1 22 0 (6) (by decide) (by decide)).trans rfl)
              have q235 : (gV τ222 22 0 6).toInt = (gV τ 22 0 6).toInt := congrArg Int32.toInt a234
              have a236 : gV τ222 22 0 7 = (gV τ 22 0 7) := (show gV τ222 22 0 7 = (gV τ 22 0 7) from (f224.1 22 0 (7) (by decide) (by decide)).trans rfl)
              have q237 : (gV τ222 22 0 7).toInt = (gV τ 22 0 7).toInt := congrArg Int32.toInt a236
              rcases h228 with ⟨h228_0, h228_1, h228_2, h228_3, h228_4, h228_5, h228_6⟩ | ⟨h228_0, h228_1, h228_2, h228_3, h228_4, h228_5, h228_6, h228_7⟩
              · skip
                have q238 := nP.bad (by omega) ⟨by omega, by omega⟩ h228_0
                have b239 : IV (gV τ222 22 0 16) 1 3 := ⟨by omega, by omega⟩
                show MW p l e _ s m args below meth c _ 2 G 0 0 104 [some (.ref (G.1 22 0)), none] [] τ222
                refine m_goto (tgt := 75) C dX12_tower_104 (by decide) ?_
                exact ih75 τ222 (tE T N (tE T N (tE T N (tE T N q75)))) i223 g227 v229 (Or.inr ⟨by omega, by omega, by omega, by omega, by omega, by omega, by omega, by omega⟩) (by have q := hm75; omega)
              · skip
                have b240 : IV (gV τ222 22 0 16) 0 0 := ⟨by omega, by omega⟩
                have v241 : CuM T N (tE T N (tE T N (tE T N (tE T N q75)))) τ222 := ⟨h228_3, h228_5⟩
                clear h228_3
                show MW p l e _ s m args below meth c _ 2 G 0 0 104 [some (.ref (G.1 22 0)), none] [] τ222
                refine m_goto (tgt := 75) C dX12_tower_104 (by decide) ?_
                exact ih75 τ222 (tE T N (tE T N (tE T N (tE T N q75)))) i223 g227 v229 (Or.inl ⟨by omega, v241, by omega, h228_6, h228_7, (by rw [show (gV τ222 23 0 152).toInt.toNat = (gV τ 23 0 152).toInt.toNat by omega, show (gV τ222 23 0 188).toInt.toNat = (gV τ 23 0 188).toInt.toNat + 1 by omega]; exact nP.go (by omega) ⟨by omega, by omega⟩ (by omega))⟩) (by have q := hm75; omega)
      · skip
        have b242 : IV (gV τ 22 0 16) 1 3 := ⟨by omega, by omega⟩
        refine m_aload_n C dX12_tower_75 rfl rfl ?_
        refine g_22_16 C q4_132 dX12_tower_76 ?_
        refine m_eqs (w := (gV τ 22 0 16)) rfl ?_
        refine m_if_ne (tgt := 107) C dX12_tower_79 (by decide) (fun c243 => ?_) (fun c243 => ?_)
        · have f244 : (gV τ 22 0 16).toInt ≠ 0 := by
            have q : _ := c243
            simp only [ti_nle, ti_nlt, ti_le, ti_lt, ti_eq, ti_ne, Classical.not_not, kt_0] at q
            omega
          refine m_aload_n C dX12_tower_107 rfl rfl ?_
          refine m_aload_n C dX12_tower_108 rfl rfl ?_
          refine g_22_16 C q4_132 dX12_tower_109 ?_
          refine m_eqs (w := (gV τ 22 0 16)) rfl ?_
          refine m_if_ne (tgt := 127) C dX12_tower_112 (by decide) (fun c245 => ?_) (fun c245 => ?_)
          · have f246 : (gV τ 22 0 16).toInt ≠ 0 := by
              have q : _ := c245
              simp only [ti_nle, ti_nlt, ti_le, ti_lt, ti_eq, ti_ne, Classical.not_not, kt_0] at q
              omega
            refine m_aload_n C dX12_tower_127 rfl rfl ?_
            refine g_22_16 C q4_132 dX12_tower_128 ?_
            refine m_eqs (w := (gV τ 22 0 16)) rfl ?_
            refine p_22_16 C q4_132 dX12_tower_131 ?_
            refine m_tops (fun τ247 eτ247 => ?_)
            have i248 : Inv τ247 := eτ247 ▸ Inv.putF iτ (by decide) rfl
            have f249 : Fr MS_X12_towerT AS_X12_towerT σ τ247 := eτ247 ▸ Fr.put (fτ) (Or.inl (by decide))
            have v250 : TpM τ247 T N := v_T.put eτ247 (Or.inr (by decide)) (by decide)
            have v251 : τ247.2.2.1 = τ.2.2.1 := by rw [eτ247]; rfl
            refine m_aload_n C dX12_tower_134 rfl rfl ?_
            refine m_iconst (v := 0) C dX12_tower_135 (by decide) ?_
            refine p_22_6 C q4_122 dX12_tower_136 ?_
            refine m_tops (fun τ252 eτ252 => ?_)
            have i253 : Inv τ252 := eτ252 ▸ Inv.put i248 (by decide) (iv_wk kc_0 (by decide))
            have f254 : Fr MS_X12_towerT AS_X12_towerT σ τ252 := eτ252 ▸ Fr.put (f249) (Or.inl (by decide))
            have v256 : τ252.2.2.1 = τ.2.2.1 := by rw [eτ252]; exact v251
            refine m_aload_n C dX12_tower_139 rfl rfl ?_
            refine g_22_16 C q4_132 dX12_tower_140 ?_
            refine m_eqs (w := (gV τ 22 0 16)) (show gV τ252 22 0 16 = (gV τ 22 0 16) from gV_put eτ252 (show gV τ247 22 0 16 = (gV τ 22 0 16) from gV_put eτ247 (gV_self _ _ _ _ _))) ?_
            refine m_if_eq (tgt := 162) C dX12_tower_143 (by decide) (fun c257 => ?_) (fun c257 => ?_)
            · exfalso
              have q : _ := c257
              simp only [ti_nle, ti_nlt, ti_le, ti_lt, ti_eq, ti_ne, Classical.not_not, kt_0] at q
              have q1 := b242; have q2 := kc_0; omega
            · have f259 : (gV τ 22 0 16).toInt ≠ 0 := by
                have q : _ := c257
                simp only [ti_nle, ti_nlt, ti_le, ti_lt, ti_eq, ti_ne, Classical.not_not, kt_0] at q
                omega
              refine m_aload_n C dX12_tower_146 rfl rfl ?_
              refine m_aload_n C dX12_tower_147 rfl rfl ?_
              refine g_22_16 C q4_132 dX12_tower_148 ?_
              refine m_eqs (w := (gV τ 22 0 16)) (show gV τ252 22 0 16 = (gV τ 22 0 16) from gV_put eτ252 (show gV τ247 22 0 16 = (gV τ 22 0 16) from gV_put eτ247 (gV_self _ _ _ _ _))) ?_
              refine p_22_7 C q4_123 dX12_tower_151 ?_
              refine m_tops (fun τ260 eτ260 => ?_)
              have i261 : Inv τ260 := eτ260 ▸ Inv.putF i253 (by decide) rfl
              have f262 : Fr MS_X12_towerT AS_X12_towerT σ τ260 := eτ260 ▸ Fr.put (f254) (Or.inl (by decide))
              have v263 : τ260.2.2.1 = τ.2.2.1 := by rw [eτ260]; exact v256
              refine m_ldc (v := (-1000100)) C dX12_tower_154 q5_34 ?_
              refine m_aload_n C dX12_tower_156 rfl rfl ?_
              refine g_22_12 C q4_128 dX12_tower_157 ?_
              refine m_eqs (w := (gV τ 22 0 12)) (show gV τ260 22 0 12 = (gV τ 22 0 12) from gV_put eτ260 (show gV τ252 22 0 12 = (gV τ 22 0 12) from gV_put eτ252 (show gV τ247 22 0 12 = (gV τ 22 0 12) from gV_put eτ247 rfl))) ?_
              have a264 : gV τ260 22 0 11 = (gV τ 22 0 11) := (show gV τ260 22 0 11 = (gV τ 22 0 11) from gV_put eτ260 (show gV τ252 22 0 11 = (gV τ 22 0 11) from gV_put eτ252 (show gV τ247 22 0 11 = (gV τ 22 0 11) from gV_put eτ247 rfl)))
              have q265 : (gV τ260 22 0 11).toInt = (gV τ 22 0 11).toInt := congrArg Int32.toInt a264
              have a266 : gV τ260 22 0 12 = (gV τ 22 0 12) := (show gV τ260 22 0 12 = (gV τ 22 0 12) from gV_put eτ260 (show gV τ252 22 0 12 = (gV τ 22 0 12) from gV_put eτ252 (show gV τ247 22 0 12 = (gV τ 22 0 12) from gV_put eτ247 rfl)))
              have q267 : (gV τ260 22 0 12).toInt = (gV τ 22 0 12).toInt := congrArg Int32.toInt a266
              have a268 : gV τ260 23 0 150 = (gV τ 23 0 150) := (show gV τ260 23 0 150 = (gV τ 23 0 150) from gV_put eτ260 (show gV τ252 23 0 150 = (gV τ 23 0 150) from gV_put eτ252 (show gV τ247 23 0 150 = (gV τ 23 0 150) from gV_put eτ247 rfl)))
              have q269 : (gV τ260 23 0 150).toInt = (gV τ 23 0 150).toInt := congrArg Int32.toInt a268
              have a270 : gV τ260 23 0 152 = (gV τ 23 0 152) := (show gV τ260 23 0 152 = (gV τ 23 0 152) from gV_put eτ260 (show gV τ252 23 0 152 = (gV τ 23 0 152) from gV_put eτ252 (show gV τ247 23 0 152 = (gV τ 23 0 152) from gV_put eτ247 rfl)))
              have q271 : (gV τ260 23 0 152).toInt = (gV τ 23 0 152).toInt := congrArg Int32.toInt a270
              have a272 : gV τ260 23 0 188 = (gV τ 23 0 188) := (show gV τ260 23 0 188 = (gV τ 23 0 188) from gV_put eτ260 (show gV τ252 23 0 188 = (gV τ 23 0 188) from gV_put eτ252 (show gV τ247 23 0 188 = (gV τ 23 0 188) from gV_put eτ247 rfl)))
              have q273 : (gV τ260 23 0 188).toInt = (gV τ 23 0 188).toInt := congrArg Int32.toInt a272
              have a274 : gV τ260 23 0 2 = (gV τ 23 0 2) := (show gV τ260 23 0 2 = (gV τ 23 0 2) from gV_put eτ260 (show gV τ252 23 0 2 = (gV τ 23 0 2) from gV_put eτ252 (show gV τ247 23 0 2 = (gV τ 23 0 2) from gV_put eτ247 rfl)))
              have q275 : (gV τ260 23 0 2).toInt = (gV τ 23 0 2).toInt := congrArg Int32.toInt a274
              have a276 : gV τ260 22 0 16 = (gV τ 22 0 16) := (show gV τ260 22 0 16 = (gV τ 22 0 16) from gV_put eτ260 (show gV τ252 22 0 16 = (gV τ 22 0 16) from gV_put eτ252 (show gV τ247 22 0 16 = (gV τ 22 0 16) from gV_put eτ247 (gV_self _ _ _ _ _))))
              have q277 : (gV τ260 22 0 16).toInt = (gV τ 22 0 16).toInt := congrArg Int32.toInt a276
              have a278 : gV τ260 22 0 6 = 0 := (show gV τ260 22 0 6 = 0 from gV_put eτ260 (show gV τ252 22 0 6 = 0 from gV_put eτ252 (gV_self _ _ _ _ _)))
              have q279 : (gV τ260 22 0 6).toInt = 0 := (congrArg Int32.toInt a278).trans kt_0
              have a280 : gV τ260 22 0 7 = (gV τ 22 0 16) := (show gV τ260 22 0 7 = (gV τ 22 0 16) from gV_put eτ260 (gV_self _ _ _ _ _))
              have q281 : (gV τ260 22 0 7).toInt = (gV τ 22 0 16).toInt := congrArg Int32.toInt a280
              have b282 : IV (gV τ 22 0 12) 0 400 := ⟨by have q1 := (iv_any (gV τ 22 0 12)); omega, by have q1 := (iv_any (gV τ 22 0 12)); omega⟩
              refine m_isub C dX12_tower_160 ?_
              refine m_topi (fun x283 ex283 => ?_)
              have tx283 : x283.toInt = -1000100 - (gV τ 22 0 12).toInt := by rw [ex283, ti_subv kc_m1000100 b282 (by decide), kt_m1000100]
              have b284 : IV x283 (-1000500) (-1000100) := by rw [ex283]; exact iv_sub kc_m1000100 b282 (by decide)
              exact m_iret C hr hlk (by decide) (by decide) dX12_tower_161 ⟨_, rfl, i261, f262, (iv_wk b284 (by decide)), (Or.inl ⟨by omega, by omega, by omega, by omega⟩)⟩
          · exfalso
            have q : _ := c245
            simp only [ti_nle, ti_nlt, ti_le, ti_lt, ti_eq, ti_ne, Classical.not_not, kt_0] at q
            have q1 := b242; have q2 := kc_0; omega
        · exfalso
          have q : _ := c243
          simp only [ti_nle, ti_nlt, ti_le, ti_lt, ti_eq, ti_ne, Classical.not_not, kt_0] at q
          have q1 := b242; have q2 := kc_0; omega
  have J43 : ∀ (n : Nat) (τ : Sg) (q43 : Nat), Inv τ → Fr MS_X12_towerT AS_X12_towerT σ τ → (TpM τ T N) → ((((gV τ 22 0 16).toInt = 0 ∧ CuM T N q43 τ ∧ (gV τ 22 0 11).toInt ≤ (gV τ 22 0 6).toInt ∧ (gV τ 23 0 150).toInt = tV T (tE T N 0) ∧ 4 ≤ (gV τ 23 0 150).toInt ∧ (gV τ 23 0 150).toInt ≤ 32 ∧ (gV τ 23 0 188).toInt = 0 ∧ Pb τ ∧ LW T N q43 τ.2.2.1 ∧ PI_ T N (gV τ 23 0 152).toInt.toNat q43) ∨ ((1 ≤ (gV τ 22 0 16).toInt ∧ (gV τ 22 0 16).toInt ≤ 3) ∧ outF T N = (gV τ 22 0 16).toInt ∧ ((gV τ 22 0 12).toInt = outP T N ∧ 0 ≤ outP T N ∧ (gV τ 22 0 12).toInt ≤ 400) ∧ (gV τ 22 0 11).toInt ≤ (gV τ 22 0 6).toInt ∧ 0 ≤ (gV τ 23 0 152).toInt ∧ (gV τ 23 0 152).toInt ≤ 7 ∧ 0 ≤ (gV τ 23 0 188).toInt ∧ (gV τ 23 0 188).toInt ≤ 4))) → (2 * (8 - (gV τ 23 0 152).toInt) + 1 - min 1 (max (gV τ 22 0 16).toInt (-(gV τ 22 0 16).toInt))).toNat < n → MW p l e { frames := 4, cells := 0, slots := 0, locals := 92 } s m args below meth c (MQ below (QP G (PI fun r τ => Inv τ ∧ Fr MS_X12_towerT AS_X12_towerT σ τ ∧ IV r (-1000500) 7 ∧ ((r.toInt = -1000100 - outP T N ∧ outF T N ≠ 0 ∧ (gV τ 22 0 7).toInt = outF T N ∧ (gV τ 22 0 6).toInt = 0) ∨ (r.toInt = outN T N ∧ outF T N = 0 ∧ (gV τ 22 0 7).toInt = (gV σ 22 0 7).toInt ∧ (gV τ 22 0 6).toInt = 0)))) args s 0 0 (aG G)) 2 G 0 0 43 [some (.ref (G.1 22 0)), none] [] τ := by
    intro n
    induction n with
    | zero => intro τ q43 iτ fτ v_T nR hm; exact absurd hm (Nat.not_lt_zero _)
    | succ n ih43 =>
      intro τ q43 iτ fτ v_T nR hm43
      have u287 : IV (gV τ 22 0 11) 0 400 := iτ.1 22 0 11
      have u288 : IV (gV τ 22 0 6) 0 400 := iτ.1 22 0 6
      have u289 : IV (gV τ 23 0 152) 0 7 := iτ.1 23 0 152
      have u290 : IV (gV τ 23 0 188) 0 4 := iτ.1 23 0 188
      have u291 : IV (gV τ 23 0 2) 0 7 := iτ.1 23 0 2
      have q292 : (gV τ 22 0 6).toInt = (N : Int) := v_T.1
      have q293 := v_T.2.1
      rcases nR with ⟨n0_, n1_, n2_, n3_, n4_, n5_, n6_, nb, nw, nP⟩ | ⟨n0_, n1_, n2_, n3_, n4_, n5_, n6_, n7_⟩
      · skip
        have b294 : IV (gV τ 22 0 16) 0 0 := ⟨by omega, by omega⟩
        refine m_aload_n C dX12_tower_43 rfl rfl ?_
        refine g_22_16 C q4_132 dX12_tower_44 ?_
        refine m_eqs (w := (gV τ 22 0 16)) rfl ?_
        refine m_if_ne (tgt := 75) C dX12_tower_47 (by decide) (fun c295 => ?_) (fun c295 => ?_)
        · exfalso
          have q : _ := c295
          simp only [ti_nle, ti_nlt, ti_le, ti_lt, ti_eq, ti_ne, Classical.not_not, kt_0] at q
          have q1 := b294; have q2 := kc_0; omega
        · have f297 : (gV τ 22 0 16).toInt = 0 := by
            have q : _ := c295
            simp only [ti_nle, ti_nlt, ti_le, ti_lt, ti_eq, ti_ne, Classical.not_not, kt_0] at q
            omega
          refine m_aload_n C dX12_tower_50 rfl rfl ?_
          refine g_22_13 C q4_129 dX12_tower_51 ?_
          refine m_topi (fun x298 ex298 => ?_)
          have q299 : (x298.toInt = 0 ↔ tK T N q43 = 1) := by have qc := n1_.1; rw [ex298]; omega
          have q300 : (x298.toInt = 4 ↔ tK T N q43 = 0) := by have qc := n1_.1; rw [ex298]; omega
          refine m_if_ne (tgt := 75) C dX12_tower_54 (by decide) (fun c301 => ?_) (fun c301 => ?_)
          · have f302 : x298.toInt ≠ 0 := by
              have q : _ := c301
              simp only [ti_nle, ti_nlt, ti_le, ti_lt, ti_eq, ti_ne, Classical.not_not, kt_0] at q
              omega
            exact J75 ((2 * (5 - (gV τ 23 0 188).toInt) + 1 - min 1 (max (gV τ 22 0 16).toInt (-(gV τ 22 0 16).toInt))).toNat + 1) τ q43 iτ fτ v_T (Or.inl ⟨by omega, n1_, by omega, nb, nw, (by rw [show (gV τ 23 0 152).toInt.toNat = (gV τ 23 0 152).toInt.toNat by omega, show (gV τ 23 0 188).toInt.toNat = 0 by omega]; exact nP.no (by omega))⟩) (Nat.lt_succ_self _)
          · have f303 : x298.toInt = 0 := by
              have q : _ := c301
              simp only [ti_nle, ti_nlt, ti_le, ti_lt, ti_eq, ti_ne, Classical.not_not, kt_0] at q
              omega
            have b304 : IV x298 0 0 := ⟨by have q1 := (iv_any x298); have q2 := kc_0; omega, by have q1 := (iv_any x298); have q2 := kc_0; omega⟩
            refine m_aload_n C dX12_tower_57 rfl rfl ?_
            refine g_22_14 C q4_130 dX12_tower_58 ?_
            refine m_topl (fun w305 ew305 => ?_)
            have q306 : tK T N q43 = 1 := by omega
            have q307 : (w305.toInt = 542723566 ↔ tW T N q43 1 = 1) := by rw [ew305]; exact LW.at1 nw q306
            refine m_ldc2 (v := 542723566) C dX12_tower_61 q5_16 ?_
            refine m_lcmp C dX12_tower_64 ?_
            refine m_topi (fun x308 ex308 => ?_)
            have b309 : IV x308 (-1) 1 := by rw [ex308]; rcases lgc w305 542723566 with q | q | q <;> omega
            have f310 := lgc w305 542723566
            rw [← ex308] at f310
            have f312 := kl_542723566
            refine m_if_ne (tgt := 75) C dX12_tower_65 (by decide) (fun c313 => ?_) (fun c313 => ?_)
            · have f314 : x308.toInt ≠ 0 := by
                have q : _ := c313
                simp only [ti_nle, ti_nlt, ti_le, ti_lt, ti_eq, ti_ne, Classical.not_not, kt_0] at q
                omega
              exact J75 ((2 * (5 - (gV τ 23 0 188).toInt) + 1 - min 1 (max (gV τ 22 0 16).toInt (-(gV τ 22 0 16).toInt))).toNat + 1) τ q43 iτ fτ v_T (Or.inl ⟨by omega, n1_, by omega, nb, nw, (by rw [show (gV τ 23 0 152).toInt.toNat = (gV τ 23 0 152).toInt.toNat by omega, show (gV τ 23 0 188).toInt.toNat = 0 by omega]; exact nP.no (by omega))⟩) (Nat.lt_succ_self _)
            · have f315 : x308.toInt = 0 := by
                have q : _ := c313
                simp only [ti_nle, ti_nlt, ti_le, ti_lt, ti_eq, ti_ne, Classical.not_not, kt_0] at q
                omega
              have b316 : IV x308 0 0 := ⟨by have q1 := b309; have q2 := kc_0; omega, by have q1 := b309; have q2 := kc_0; omega⟩
              refine m_aload_n C dX12_tower_68 rfl rfl ?_
              refine m_callV (n := 0) (ci := 11) (st := []) C (c_X12_takePersonE l G τ T N q43 (tV T (tE T N 0)) ((gV τ 23 0 152).toInt.toNat : Nat)  iτ v_T n1_ (by omega) (by omega) (by omega) nb (by omega)) (by decide) (by decide) rfl rfl rfl q5_20 q5_17 q5_19 q0_33 q1_7 (by decide +kernel) rfl (by decide) (by decide) rfl (Nat.le_of_ble_eq_true rfl) dX12_tower_69 ?_
              rintro _ τ317 ⟨rfl, i318, f319, h323⟩
              have g322 : Fr MS_X12_towerT AS_X12_towerT σ τ317 := Fr.call (fτ) f319 (by decide)
              have v324 : TpM τ317 T N := v_T.fr f319 (by decide) (by decide) (by simp) (by decide)
              have u325 : IV (gV τ317 22 0 11) 0 400 := i318.1 22 0 11
              have u326 : IV (gV τ317 23 0 152) 0 7 := i318.1 23 0 152
              have u327 : IV (gV τ317 23 0 188) 0 4 := i318.1 23 0 188
              have u328 : IV (gV τ317 23 0 2) 0 7 := i318.1 23 0 2
              have a329 : gV τ317 22 0 6 = (gV τ 22 0 6) := (show gV τ317 22 0 6 = (gV τ 22 0 6) from (f319.1 22 0 (6) (by decide) (by decide)).trans rfl)
              have q330 : (gV τ317 22 0 6).toInt = (gV τ 22 0 6).toInt := congrArg Int32.toInt a329
              have a331 : gV τ317 22 0 7 = (gV τ 22 0 7) := (show gV τ317 22 0 7 = (gV τ 22 0 7) from (f319.1 22 0 (7) (by decide) (by decide)).trans rfl)
              have q332 : (gV τ317 22 0 7).toInt = (gV τ 22 0 7).toInt := congrArg Int32.toInt a331
              rcases h323 with ⟨h323_0, h323_1, h323_2, h323_3, h323_4, h323_5⟩ | ⟨h323_0, h323_1, h323_2, h323_3, h323_4, h323_5, h323_6, h323_7⟩
              · skip
                have q333 := nP.bad (by omega) ⟨by omega, by omega⟩ h323_0
                have b334 : IV (gV τ317 22 0 16) 1 3 := ⟨by omega, by omega⟩
                show MW p l e _ s m args below meth c _ 2 G 0 0 72 [some (.ref (G.1 22 0)), none] [] τ317
                refine m_goto (tgt := 43) C dX12_tower_72 (by decide) ?_
                exact ih43 τ317 (tE T N (tE T N (tE T N (tE T N (tE T N (tE T N q43)))))) i318 g322 v324 (Or.inr ⟨by omega, by omega, by omega, by omega, by omega, by omega, by omega, by omega⟩) (by have q := hm43; omega)
              · skip
                have b335 : IV (gV τ317 22 0 16) 0 0 := ⟨by omega, by omega⟩
                have v336 : CuM T N (tE T N (tE T N (tE T N (tE T N (tE T N (tE T N q43)))))) τ317 := ⟨h323_3, h323_5⟩
                clear h323_3
                show MW p l e _ s m args below meth c _ 2 G 0 0 72 [some (.ref (G.1 22 0)), none] [] τ317
                refine m_goto (tgt := 43) C dX12_tower_72 (by decide) ?_
                exact ih43 τ317 (tE T N (tE T N (tE T N (tE T N (tE T N (tE T N q43)))))) i318 g322 v324 (Or.inl ⟨by omega, v336, by omega, by omega, by omega, by omega, by omega, h323_6, h323_7, (by rw [show (gV τ317 23 0 152).toInt.toNat = (gV τ 23 0 152).toInt.toNat + 1 by omega]; exact nP.go (by omega) ⟨by omega, by omega⟩ (by omega))⟩) (by have q := hm43; omega)
      · skip
        have b337 : IV (gV τ 22 0 16) 1 3 := ⟨by omega, by omega⟩
        refine m_aload_n C dX12_tower_43 rfl rfl ?_
        refine g_22_16 C q4_132 dX12_tower_44 ?_
        refine m_eqs (w := (gV τ 22 0 16)) rfl ?_
        refine m_if_ne (tgt := 75) C dX12_tower_47 (by decide) (fun c338 => ?_) (fun c338 => ?_)
        · have f339 : (gV τ 22 0 16).toInt ≠ 0 := by
            have q : _ := c338
            simp only [ti_nle, ti_nlt, ti_le, ti_lt, ti_eq, ti_ne, Classical.not_not, kt_0] at q
            omega
          exact J75 ((2 * (5 - (gV τ 23 0 188).toInt) + 1 - min 1 (max (gV τ 22 0 16).toInt (-(gV τ 22 0 16).toInt))).toNat + 1) τ q43 iτ fτ v_T (Or.inr ⟨by omega, by omega, by omega, by omega, by omega, by omega, by omega, by omega⟩) (Nat.lt_succ_self _)
        · exfalso
          have q : _ := c338
          simp only [ti_nle, ti_nlt, ti_le, ti_lt, ti_eq, ti_ne, Classical.not_not, kt_0] at q
          have q1 := b337; have q2 := kc_0; omega
  have J2 : ∀ (n : Nat) (τ : Sg) (y1 : Int32), Inv τ → Fr MS_X12_towerT AS_X12_towerT σ τ → IV y1 0 50 → (TpM τ T N) → ((3 ≤ y1.toInt → (gV τ 23 0 152).toInt = 0)) → ((39 ≤ y1.toInt → (gV τ 23 0 188).toInt = 0)) → (50 - y1.toInt).toNat < n → MW p l e { frames := 4, cells := 0, slots := 0, locals := 92 } s m args below meth c (MQ below (QP G (PI fun r τ => Inv τ ∧ Fr MS_X12_towerT AS_X12_towerT σ τ ∧ IV r (-1000500) 7 ∧ ((r.toInt = -1000100 - outP T N ∧ outF T N ≠ 0 ∧ (gV τ 22 0 7).toInt = outF T N ∧ (gV τ 22 0 6).toInt = 0) ∨ (r.toInt = outN T N ∧ outF T N = 0 ∧ (gV τ 22 0 7).toInt = (gV σ 22 0 7).toInt ∧ (gV τ 22 0 6).toInt = 0)))) args s 0 0 (aG G)) 2 G 0 0 2 [some (.ref (G.1 22 0)), some (.int y1)] [] τ := by
    intro n
    induction n with
    | zero => intro τ y1 iτ fτ b_y1 v_T nz nz2 hm; exact absurd hm (Nat.not_lt_zero _)
    | succ n ih2 =>
      intro τ y1 iτ fτ b_y1 v_T nz nz2 hm2
      have u341 : IV (gV τ 22 0 11) 0 400 := iτ.1 22 0 11
      have u342 : IV (gV τ 22 0 6) 0 400 := iτ.1 22 0 6
      have u343 : IV (gV τ 23 0 152) 0 7 := iτ.1 23 0 152
      have u344 : IV (gV τ 23 0 188) 0 4 := iτ.1 23 0 188
      have u345 : IV (gV τ 23 0 2) 0 7 := iτ.1 23 0 2
      have q346 : (gV τ 22 0 6).toInt = (N : Int) := v_T.1
      have q347 := v_T.2.1
      refine m_iload_n C dX12_tower_2 rfl rfl ?_
      refine m_bipush (v := 50) C dX12_tower_3 (by decide) ?_
      refine m_icmp_ge (tgt := 25) C dX12_tower_5 (by decide) (fun c348 => ?_) (fun c348 => ?_)
      · have f349 : 50 ≤ y1.toInt := by
          have q : _ := c348
          simp only [ti_nle, ti_nlt, ti_le, ti_lt, ti_eq, ti_ne, Classical.not_not, kt_50] at q
          omega
        have b350 : IV y1 50 50 := ⟨by have q1 := kc_50; have q2 := b_y1; omega, by have q1 := kc_50; have q2 := b_y1; omega⟩
        refine m_aload_n C dX12_tower_25 rfl rfl ?_
        refine m_iconst (v := 0) C dX12_tower_26 (by decide) ?_
        refine p_22_11 C q4_127 dX12_tower_27 ?_
        refine m_tops (fun τ351 eτ351 => ?_)
        have i352 : Inv τ351 := eτ351 ▸ Inv.put iτ (by decide) (iv_wk kc_0 (by decide))
        have f353 : Fr MS_X12_towerT AS_X12_towerT σ τ351 := eτ351 ▸ Fr.put (fτ) (Or.inl (by decide))
        have v354 : TpM τ351 T N := v_T.put eτ351 (Or.inr (by decide)) (by decide)
        have v355 : τ351.2.2.1 = τ.2.2.1 := by rw [eτ351]; rfl
        refine m_aload_n C dX12_tower_30 rfl rfl ?_
        refine m_iconst (v := 0) C dX12_tower_31 (by decide) ?_
        refine p_22_16 C q4_132 dX12_tower_32 ?_
        refine m_tops (fun τ356 eτ356 => ?_)
        have i357 : Inv τ356 := eτ356 ▸ Inv.putF i352 (by decide) rfl
        have f358 : Fr MS_X12_towerT AS_X12_towerT σ τ356 := eτ356 ▸ Fr.put (f353) (Or.inl (by decide))
        have v359 : TpM τ356 T N := v354.put eτ356 (Or.inr (by decide)) (by decide)
        have v360 : τ356.2.2.1 = τ.2.2.1 := by rw [eτ356]; exact v355
        refine m_aload_n C dX12_tower_35 rfl rfl ?_
        have a361 : gV τ356 22 0 12 = (gV τ 22 0 12) := (show gV τ356 22 0 12 = (gV τ 22 0 12) from gV_put eτ356 (show gV τ351 22 0 12 = (gV τ 22 0 12) from gV_put eτ351 rfl))
        have q362 : (gV τ356 22 0 12).toInt = (gV τ 22 0 12).toInt := congrArg Int32.toInt a361
        have a363 : gV τ356 22 0 6 = (gV τ 22 0 6) := (show gV τ356 22 0 6 = (gV τ 22 0 6) from gV_put eτ356 (show gV τ351 22 0 6 = (gV τ 22 0 6) from gV_put eτ351 rfl))
        have q364 : (gV τ356 22 0 6).toInt = (gV τ 22 0 6).toInt := congrArg Int32.toInt a363
        have a365 : gV τ356 22 0 7 = (gV τ 22 0 7) := (show gV τ356 22 0 7 = (gV τ 22 0 7) from gV_put eτ356 (show gV τ351 22 0 7 = (gV τ 22 0 7) from gV_put eτ351 rfl))
        have q366 : (gV τ356 22 0 7).toInt = (gV τ 22 0 7).toInt := congrArg Int32.toInt a365
        have a367 : gV τ356 23 0 150 = (gV τ 23 0 150) := (show gV τ356 23 0 150 = (gV τ 23 0 150) from gV_put eτ356 (show gV τ351 23 0 150 = (gV τ 23 0 150) from gV_put eτ351 rfl))
        have q368 : (gV τ356 23 0 150).toInt = (gV τ 23 0 150).toInt := congrArg Int32.toInt a367
        have a369 : gV τ356 23 0 152 = (gV τ 23 0 152) := (show gV τ356 23 0 152 = (gV τ 23 0 152) from gV_put eτ356 (show gV τ351 23 0 152 = (gV τ 23 0 152) from gV_put eτ351 rfl))
        have q370 : (gV τ356 23 0 152).toInt = (gV τ 23 0 152).toInt := congrArg Int32.toInt a369
        have a371 : gV τ356 23 0 188 = (gV τ 23 0 188) := (show gV τ356 23 0 188 = (gV τ 23 0 188) from gV_put eτ356 (show gV τ351 23 0 188 = (gV τ 23 0 188) from gV_put eτ351 rfl))
        have q372 : (gV τ356 23 0 188).toInt = (gV τ 23 0 188).toInt := congrArg Int32.toInt a371
        have a373 : gV τ356 23 0 2 = (gV τ 23 0 2) := (show gV τ356 23 0 2 = (gV τ 23 0 2) from gV_put eτ356 (show gV τ351 23 0 2 = (gV τ 23 0 2) from gV_put eτ351 rfl))
        have q374 : (gV τ356 23 0 2).toInt = (gV τ 23 0 2).toInt := congrArg Int32.toInt a373
        have a375 : gV τ356 22 0 11 = 0 := (show gV τ356 22 0 11 = 0 from gV_put eτ356 (show gV τ351 22 0 11 = 0 from gV_put eτ351 (gV_self _ _ _ _ _)))
        have q376 : (gV τ356 22 0 11).toInt = 0 := (congrArg Int32.toInt a375).trans kt_0
        have a377 : gV τ356 22 0 16 = 0 := (show gV τ356 22 0 16 = 0 from gV_put eτ356 (gV_self _ _ _ _ _))
        have q378 : (gV τ356 22 0 16).toInt = 0 := (congrArg Int32.toInt a377).trans kt_0
        refine m_callV (n := 0) (ci := 11) (st := []) C (c_X12_nextE l G τ356 T N 0  i357 v359 (by omega)) (by decide) (by decide) rfl rfl rfl q4_231 q4_228 q4_230 q0_28 q1_7 (by decide +kernel) rfl (by decide) (by decide) rfl (Nat.le_of_ble_eq_true rfl) dX12_tower_36 ?_
        rintro _ τ379 ⟨rfl, i380, f381, h385⟩
        have g384 : Fr MS_X12_towerT AS_X12_towerT σ τ379 := Fr.call (f358) f381 (by decide)
        have v386 : TpM τ379 T N := v359.fr f381 (by decide) (by decide) (by simp) (by decide)
        obtain ⟨h387, h389, v388⟩ := h385
        have v390 : CuM T N 0 τ379 := ⟨h387, h389⟩
        clear h387
        have u391 : IV (gV τ379 22 0 11) 0 400 := i380.1 22 0 11
        have a392 : gV τ379 22 0 6 = (gV τ 22 0 6) := (show gV τ379 22 0 6 = (gV τ 22 0 6) from (f381.1 22 0 (6) (by decide) (by decide)).trans a363)
        have q393 : (gV τ379 22 0 6).toInt = (gV τ 22 0 6).toInt := congrArg Int32.toInt a392
        have a394 : gV τ379 22 0 7 = (gV τ 22 0 7) := (show gV τ379 22 0 7 = (gV τ 22 0 7) from (f381.1 22 0 (7) (by decide) (by decide)).trans a365)
        have q395 : (gV τ379 22 0 7).toInt = (gV τ 22 0 7).toInt := congrArg Int32.toInt a394
        have a396 : gV τ379 23 0 150 = (gV τ 23 0 150) := (show gV τ379 23 0 150 = (gV τ 23 0 150) from (f381.1 23 0 (150) (by decide) (by decide)).trans a367)
        have q397 : (gV τ379 23 0 150).toInt = (gV τ 23 0 150).toInt := congrArg Int32.toInt a396
        have a398 : gV τ379 23 0 152 = (gV τ 23 0 152) := (show gV τ379 23 0 152 = (gV τ 23 0 152) from (f381.1 23 0 (152) (by decide) (by decide)).trans a369)
        have q399 : (gV τ379 23 0 152).toInt = (gV τ 23 0 152).toInt := congrArg Int32.toInt a398
        have a400 : gV τ379 23 0 188 = (gV τ 23 0 188) := (show gV τ379 23 0 188 = (gV τ 23 0 188) from (f381.1 23 0 (188) (by decide) (by decide)).trans a371)
        have q401 : (gV τ379 23 0 188).toInt = (gV τ 23 0 188).toInt := congrArg Int32.toInt a400
        have a402 : gV τ379 23 0 2 = (gV τ 23 0 2) := (show gV τ379 23 0 2 = (gV τ 23 0 2) from (f381.1 23 0 (2) (by decide) (by decide)).trans a373)
        have q403 : (gV τ379 23 0 2).toInt = (gV τ 23 0 2).toInt := congrArg Int32.toInt a402
        have a404 : gV τ379 22 0 16 = 0 := (show gV τ379 22 0 16 = 0 from (f381.1 22 0 (16) (by decide) (by decide)).trans a377)
        have q405 : (gV τ379 22 0 16).toInt = 0 := (congrArg Int32.toInt a404).trans kt_0
        show MW p l e _ s m args below meth c _ 2 G 0 0 39 [some (.ref (G.1 22 0)), some (.int y1)] [] τ379
        refine m_aload_n C dX12_tower_39 rfl rfl ?_
        refine m_callV (n := 0) (ci := 11) (st := []) C (c_X12_takeLawE l G τ379 T N 0  i380 v386 v390.1 (by omega) (by omega) v388) (by decide) (by decide) rfl rfl rfl q5_2 q4_239 q5_1 q0_29 q1_7 (by decide +kernel) rfl (by decide) (by decide) rfl (Nat.le_of_ble_eq_true rfl) dX12_tower_40 ?_
        rintro _ τ406 ⟨rfl, i407, f408, h412⟩
        have g411 : Fr MS_X12_towerT AS_X12_towerT σ τ406 := Fr.call (g384) f408 (by decide)
        have v413 : TpM τ406 T N := v386.fr f408 (by decide) (by decide) (by simp) (by decide)
        have u414 : IV (gV τ406 22 0 11) 0 400 := i407.1 22 0 11
        have u415 : IV (gV τ406 23 0 152) 0 7 := i407.1 23 0 152
        have u416 : IV (gV τ406 23 0 188) 0 4 := i407.1 23 0 188
        have u417 : IV (gV τ406 23 0 2) 0 7 := i407.1 23 0 2
        have a418 : gV τ406 22 0 6 = (gV τ 22 0 6) := (show gV τ406 22 0 6 = (gV τ 22 0 6) from (f408.1 22 0 (6) (by decide) (by decide)).trans a392)
        have q419 : (gV τ406 22 0 6).toInt = (gV τ 22 0 6).toInt := congrArg Int32.toInt a418
        have a420 : gV τ406 22 0 7 = (gV τ 22 0 7) := (show gV τ406 22 0 7 = (gV τ 22 0 7) from (f408.1 22 0 (7) (by decide) (by decide)).trans a394)
        have q421 : (gV τ406 22 0 7).toInt = (gV τ 22 0 7).toInt := congrArg Int32.toInt a420
        rcases h412 with ⟨h412_0, h412_1, h412_2, h412_3, h412_4⟩ | ⟨h412_0, h412_1, h412_2, h412_3, h412_4, h412_5, h412_6⟩
        · skip
          have q422 := out_law (T := T) (N := N) (by omega)
          have b423 : IV (gV τ406 22 0 16) 1 3 := ⟨by omega, by omega⟩
          show MW p l e _ s m args below meth c _ 2 G 0 0 43 [some (.ref (G.1 22 0)), some (.int y1)] [] τ406
          refine m_sub (L1 := [some (.ref (G.1 22 0)), none]) ⟨rfl, trivial⟩ ?_
          exact J43 ((2 * (8 - (gV τ406 23 0 152).toInt) + 1 - min 1 (max (gV τ406 22 0 16).toInt (-(gV τ406 22 0 16).toInt))).toNat + 1) τ406 (tE T N (tE T N (tE T N (tE T N 0)))) i407 g411 v413 (Or.inr ⟨by omega, by omega, by omega, by omega, by omega, by omega, by omega, by omega⟩) (Nat.lt_succ_self _)
        · skip
          have b424 : IV (gV τ406 22 0 16) 0 0 := ⟨by omega, by omega⟩
          have v425 : CuM T N (tE T N (tE T N (tE T N (tE T N 0)))) τ406 := ⟨h412_3, h412_5⟩
          clear h412_3
          have v426 : Pb τ406 := fun p _ hp => absurd hp (by omega)
          show MW p l e _ s m args below meth c _ 2 G 0 0 43 [some (.ref (G.1 22 0)), some (.int y1)] [] τ406
          refine m_sub (L1 := [some (.ref (G.1 22 0)), none]) ⟨rfl, trivial⟩ ?_
          exact J43 ((2 * (8 - (gV τ406 23 0 152).toInt) + 1 - min 1 (max (gV τ406 22 0 16).toInt (-(gV τ406 22 0 16).toInt))).toNat + 1) τ406 (tE T N (tE T N (tE T N (tE T N 0)))) i407 g411 v413 (Or.inl ⟨by omega, v425, by omega, by omega, by omega, by omega, by omega, v426, h412_6, (by rw [show (gV τ406 23 0 152).toInt.toNat = 0 by omega]; exact PI_.start (by omega))⟩) (Nat.lt_succ_self _)
      · have f427 : y1.toInt < 50 := by
          have q : _ := c348
          simp only [ti_nle, ti_nlt, ti_le, ti_lt, ti_eq, ti_ne, Classical.not_not, kt_50] at q
          omega
        have b428 : IV y1 0 49 := ⟨by have q1 := b_y1; have q2 := kc_50; omega, by have q1 := b_y1; have q2 := kc_50; omega⟩
        refine m_aload_n C dX12_tower_8 rfl rfl ?_
        refine g_22_0 C q4_116 dX12_tower_9 ?_
        refine m_sipush (v := 150) C dX12_tower_12 (by decide) ?_
        refine m_iload_n C dX12_tower_15 rfl rfl ?_
        refine m_iadd C dX12_tower_16 ?_
        refine m_topi (fun x429 ex429 => ?_)
        have tx429 : x429.toInt = 150 + y1.toInt := by rw [ex429, ti_addv kc_150 b428 (by decide), kt_150]
        have b430 : IV x429 150 199 := by rw [ex429]; exact iv_add kc_150 b428 (by decide)
        refine m_iconst (v := 0) C dX12_tower_17 (by decide) ?_
        refine as_23 C b430 (by decide) rfl dX12_tower_18 ?_
        refine m_tops (fun τ431 eτ431 => ?_)
        have i432 : Inv τ431 := eτ431 ▸ Inv.putR0 iτ (by omega) kt_0
        have f433 : Fr MS_X12_towerT AS_X12_towerT σ τ431 := eτ431 ▸ Fr.put (fτ) (Or.inr (by decide))
        have v434 : TpM τ431 T N := v_T.put eτ431 (Or.inl (by decide)) (by decide)
        have v435 : τ431.2.2.1 = τ.2.2.1 := by rw [eτ431]; rfl
        obtain ⟨x436, ex436⟩ : ∃ y : Int32, y = y1 + 1 := ⟨_, rfl⟩
        have tx436 : x436.toInt = y1.toInt + 1 := by rw [ex436, ti_addv b428 kc_1 (by decide), kt_1]
        have b437 : IV x436 1 50 := by rw [ex436]; exact iv_add b428 kc_1 (by decide)
        refine m_iinc (v := x436) (L1 := [some (.ref (G.1 22 0)), some (.int x436)]) C dX12_tower_19 rfl (by rw [ex436]; rfl) (by decide) rfl rfl ?_
        refine m_goto (tgt := 2) C dX12_tower_22 (by decide) ?_
        have a438 : gV τ431 22 0 11 = (gV τ 22 0 11) := (show gV τ431 22 0 11 = (gV τ 22 0 11) from gV_put eτ431 rfl)
        have q439 : (gV τ431 22 0 11).toInt = (gV τ 22 0 11).toInt := congrArg Int32.toInt a438
        have a440 : gV τ431 22 0 12 = (gV τ 22 0 12) := (show gV τ431 22 0 12 = (gV τ 22 0 12) from gV_put eτ431 rfl)
        have q441 : (gV τ431 22 0 12).toInt = (gV τ 22 0 12).toInt := congrArg Int32.toInt a440
        have a442 : gV τ431 22 0 16 = (gV τ 22 0 16) := (show gV τ431 22 0 16 = (gV τ 22 0 16) from gV_put eτ431 rfl)
        have q443 : (gV τ431 22 0 16).toInt = (gV τ 22 0 16).toInt := congrArg Int32.toInt a442
        have a444 : gV τ431 22 0 6 = (gV τ 22 0 6) := (show gV τ431 22 0 6 = (gV τ 22 0 6) from gV_put eτ431 rfl)
        have q445 : (gV τ431 22 0 6).toInt = (gV τ 22 0 6).toInt := congrArg Int32.toInt a444
        have a446 : gV τ431 22 0 7 = (gV τ 22 0 7) := (show gV τ431 22 0 7 = (gV τ 22 0 7) from gV_put eτ431 rfl)
        have q447 : (gV τ431 22 0 7).toInt = (gV τ 22 0 7).toInt := congrArg Int32.toInt a446
        have a448 : gV τ431 23 0 2 = (gV τ 23 0 2) := (show gV τ431 23 0 2 = (gV τ 23 0 2) from (gV_putn eτ431 (Or.inr (Or.inr (nat_ne b430 (by decide))))).trans rfl)
        have q449 : (gV τ431 23 0 2).toInt = (gV τ 23 0 2).toInt := congrArg Int32.toInt a448
        exact ih2 τ431 x436 i432 f433 (iv_wk b437 (by decide)) v434 (fun q => zero152 eτ431 kt_0 (by omega)) (fun q => zero188 eτ431 kt_0 (by omega)) (by have q := hm2; omega)
  have u450 : IV (gV σ 22 0 11) 0 400 := hI.1 22 0 11
  have u451 : IV (gV σ 22 0 6) 0 400 := hI.1 22 0 6
  have u452 : IV (gV σ 23 0 152) 0 7 := hI.1 23 0 152
  have u453 : IV (gV σ 23 0 188) 0 4 := hI.1 23 0 188
  have u454 : IV (gV σ 23 0 2) 0 7 := hI.1 23 0 2
  have q455 : (gV σ 22 0 6).toInt = (N : Int) := hT.1
  have q456 := hT.2.1
  refine m_iconst (v := 0) C dX12_tower_0 (by decide) ?_
  refine m_istore_n (L1 := [some (.ref (G.1 22 0)), some (.int 0)]) C dX12_tower_1 rfl (by decide) rfl rfl ?_
  exact J2 ((50 - (0 : Int32).toInt).toNat + 1) σ 0 hI Fr.rf (iv_wk kc_0 (by decide)) hT (by omega) (by omega) (Nat.lt_succ_self _)
