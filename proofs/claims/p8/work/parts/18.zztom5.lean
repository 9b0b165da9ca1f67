abbrev MS_X12_takeStoneE : List (Nat × Nat) := [(22, 11), (22, 12), (22, 13), (22, 15), (22, 16)]
abbrev AS_X12_takeStoneE : List Nat := [23]
set_option maxHeartbeats 4000000 in
set_option maxRecDepth 100000 in
theorem c_X12_takeStoneE (l : Launch) (G : Gt) (σ : Sg) (T : Nat → Int) (N : Nat) (i : Nat) (cc : Int) (hI : Inv σ) (hT : TpM σ T N) (hcur : CuM T N i σ) (hat : (gV σ 22 0 11).toInt ≤ (gV σ 22 0 6).toInt) (htk : tK T N i = 1) (hf0 : (gV σ 22 0 16).toInt = 0) (hPb : Pb σ) (hst : (gV σ 23 0 188).toInt = cc) : Mc l G yX12_takeStone cX12_takeStone 2 none 3 69 0 0 [.ref (G.1 22 0)] σ (PV fun τ => Inv τ ∧ Fr MS_X12_takeStoneE AS_X12_takeStoneE σ τ ∧ ((stoF T N cc i ≠ 0 ∧ ((gV τ 22 0 16).toInt = stoF T N cc i ∧ 1 ≤ (gV τ 22 0 16).toInt ∧ (gV τ 22 0 16).toInt ≤ 3) ∧ ((gV τ 22 0 12).toInt = stoP T N cc i ∧ 0 ≤ (gV τ 22 0 12).toInt ∧ (gV τ 22 0 12).toInt ≤ 400) ∧ ((gV τ 23 0 188).toInt = cc ∨ (gV τ 23 0 188).toInt = cc + 1) ∧ ((gV τ 23 0 150).toInt = (gV σ 23 0 150).toInt ∧ (gV τ 23 0 152).toInt = (gV σ 23 0 152).toInt) ∧ (gV τ 22 0 11).toInt ≤ (gV τ 22 0 6).toInt ∧ Pb τ) ∨ (stoF T N cc i = 0 ∧ (gV τ 22 0 16).toInt = 0 ∧ (gV τ 23 0 188).toInt = cc + 1 ∧ ((gV τ 22 0 12).toInt = (tS T (tE T N (tE T N (tE T N (tE T N i)))) : Int) ∧ (tK T N (tE T N (tE T N (tE T N (tE T N i)))) ≠ 4 → (gV τ 22 0 11).toInt = (tE T N (tE T N (tE T N (tE T N (tE T N i)))) : Int)) ∧ (gV τ 22 0 13).toInt = (tK T N (tE T N (tE T N (tE T N (tE T N i)))) + 4) % 5 ∧ 0 ≤ tK T N (tE T N (tE T N (tE T N (tE T N i)))) ∧ tK T N (tE T N (tE T N (tE T N (tE T N i)))) ≤ 4 ∧ (tK T N (tE T N (tE T N (tE T N (tE T N i)))) = 2 → (gV τ 22 0 15).toInt = tV T (tE T N (tE T N (tE T N (tE T N i))))) ∧ (gV τ 22 0 12).toInt ≤ 400) ∧ ((gV τ 23 0 150).toInt = (gV σ 23 0 150).toInt ∧ (gV τ 23 0 152).toInt = (gV σ 23 0 152).toInt) ∧ (gV τ 22 0 11).toInt ≤ (gV τ 22 0 6).toInt ∧ Pb τ ∧ LW T N (tE T N (tE T N (tE T N (tE T N i)))) τ.2.2.1))) := by
  refine Mc.of (L0 := [some (.ref (G.1 22 0)), none]) (by decide) (Nat.le_of_ble_eq_true rfl) rfl ?_
  intro p e s m args below meth c C hr hlk
  have C : Cx p s m args c cX12_takeStone 2 "LeanTowerModel" := C
  have k0 : (0 : Int32).toInt = 0 := by decide
  have k1 : (1 : Int32).toInt = 1 := by decide
  have u1 : IV (gV σ 22 0 11) 0 400 := hI.1 22 0 11
  have u2 : IV (gV σ 22 0 6) 0 400 := hI.1 22 0 6
  have u3 : IV (gV σ 23 0 152) 0 7 := hI.1 23 0 152
  have u4 : IV (gV σ 23 0 188) 0 4 := hI.1 23 0 188
  have q5 : (gV σ 22 0 6).toInt = (N : Int) := hT.1
  have q6 := hT.2.1
  have b7 : IV (gV σ 22 0 16) 0 0 := ⟨by omega, by omega⟩
  refine m_aload_n C dX12_takeStone_0 rfl rfl ?_
  refine g_22_0 C q4_116 dX12_takeStone_1 ?_
  refine m_sipush (v := 188) C dX12_takeStone_4 (by decide) ?_
  refine al_23 C kc_188 (by decide) kn_188 dX12_takeStone_7 ?_
  refine m_eqs (w := (gV σ 23 0 188)) rfl ?_
  refine m_istore_n (L1 := [some (.ref (G.1 22 0)), some (.int (gV σ 23 0 188))]) C dX12_takeStone_8 rfl (by decide) rfl rfl ?_
  refine m_iload_n C dX12_takeStone_9 rfl rfl ?_
  refine m_iconst (v := 4) C dX12_takeStone_10 (by decide) ?_
  refine m_icmp_ne (tgt := 20) C dX12_takeStone_11 (by decide) (fun c8 => ?_) (fun c8 => ?_)
  · have f9 : (gV σ 23 0 188).toInt ≠ 4 := by
      have q : _ := c8
      simp only [ti_nle, ti_nlt, ti_le, ti_lt, ti_eq, ti_ne, Classical.not_not, kt_4] at q
      omega
    have b10 : IV (gV σ 23 0 188) 0 3 := ⟨by have q1 := u4; have q2 := kc_4; omega, by have q1 := u4; have q2 := kc_4; omega⟩
    refine m_aload_n C dX12_takeStone_20 rfl rfl ?_
    refine m_callV (n := 0) (ci := 11) (st := []) C (c_X12_nextE l G σ T N (tE T N i)  hI hT (by have qc := hcur.1; omega)) (by decide) (by decide) rfl rfl rfl q4_231 q4_228 q4_230 q0_28 q1_7 (by decide +kernel) rfl (by decide) (by decide) rfl (Nat.le_of_ble_eq_true rfl) dX12_takeStone_21 ?_
    rintro _ τ11 ⟨rfl, i12, f13, h17⟩
    have g16 : Fr MS_X12_takeStoneE AS_X12_takeStoneE σ τ11 := Fr.call (Fr.rf) f13 (by decide)
    have v18 : Pb τ11 := hPb.call (fun k => f13.1 23 0 k (by simp) (by decide))
    have v19 : TpM τ11 T N := hT.fr f13 (by decide) (by decide) (by simp) (by decide)
    obtain ⟨h20, h22, v21⟩ := h17
    have v23 : CuM T N (tE T N i) τ11 := ⟨h20, h22⟩
    clear h20
    have u24 : IV (gV τ11 22 0 11) 0 400 := i12.1 22 0 11
    have a25 : gV τ11 22 0 16 = (gV σ 22 0 16) := (show gV τ11 22 0 16 = (gV σ 22 0 16) from (f13.1 22 0 (16) (by decide) (by decide)).trans rfl)
    have q26 : (gV τ11 22 0 16).toInt = (gV σ 22 0 16).toInt := congrArg Int32.toInt a25
    have a27 : gV τ11 22 0 6 = (gV σ 22 0 6) := (show gV τ11 22 0 6 = (gV σ 22 0 6) from (f13.1 22 0 (6) (by decide) (by decide)).trans rfl)
    have q28 : (gV τ11 22 0 6).toInt = (gV σ 22 0 6).toInt := congrArg Int32.toInt a27
    have a29 : gV τ11 23 0 150 = (gV σ 23 0 150) := (show gV τ11 23 0 150 = (gV σ 23 0 150) from (f13.1 23 0 (150) (by decide) (by decide)).trans rfl)
    have q30 : (gV τ11 23 0 150).toInt = (gV σ 23 0 150).toInt := congrArg Int32.toInt a29
    have a31 : gV τ11 23 0 152 = (gV σ 23 0 152) := (show gV τ11 23 0 152 = (gV σ 23 0 152) from (f13.1 23 0 (152) (by decide) (by decide)).trans rfl)
    have q32 : (gV τ11 23 0 152).toInt = (gV σ 23 0 152).toInt := congrArg Int32.toInt a31
    have a33 : gV τ11 23 0 188 = (gV σ 23 0 188) := (show gV τ11 23 0 188 = (gV σ 23 0 188) from (f13.1 23 0 (188) (by decide) (by decide)).trans rfl)
    have q34 : (gV τ11 23 0 188).toInt = (gV σ 23 0 188).toInt := congrArg Int32.toInt a33
    show MW p l e _ s m args below meth c _ 2 G 0 0 24 [some (.ref (G.1 22 0)), some (.int (gV σ 23 0 188))] [] τ11
    refine m_aload_n C dX12_takeStone_24 rfl rfl ?_
    refine g_22_0 C q4_116 dX12_takeStone_25 ?_
    refine m_sipush (v := 189) C dX12_takeStone_28 (by decide) ?_
    refine m_iload_n C dX12_takeStone_31 rfl rfl ?_
    refine m_iadd C dX12_takeStone_32 ?_
    refine m_topi (fun x35 ex35 => ?_)
    have tx35 : x35.toInt = 189 + (gV σ 23 0 188).toInt := by rw [ex35, ti_addv kc_189 b10 (by decide), kt_189]
    have b36 : IV x35 189 192 := by rw [ex35]; exact iv_add kc_189 b10 (by decide)
    refine m_aload_n C dX12_takeStone_33 rfl rfl ?_
    refine m_iconst (v := 1) C dX12_takeStone_34 (by decide) ?_
    refine m_bipush (v := 20) C dX12_takeStone_35 (by decide) ?_
    refine m_iconst (v := 1) C dX12_takeStone_37 (by decide) ?_
    have q37 := kt_1
    have q38 := kt_20
    have q39 := kt_1
    refine m_callV (n := 3) (ci := 11) (st := [.int x35, .ref (G.1 23 0)]) C (c_X12_takeNumberE l G τ11 T N (tE T N i) (1) (20) (1) i12 v19 v23.1 (by omega)) (by decide) (by decide) rfl rfl rfl q5_7 q5_4 q5_6 q0_30 q1_7 (by decide +kernel) rfl (by decide) (by decide) rfl (Nat.le_of_ble_eq_true rfl) dX12_takeStone_38 ?_
    rintro _ τ40 ⟨x43, rfl, i41, f42, b44, h46⟩
    have g45 : Fr MS_X12_takeStoneE AS_X12_takeStoneE σ τ40 := Fr.call (g16) f42 (by decide)
    have v47 : Pb τ40 := v18.call (fun k => f42.1 23 0 k (by simp) (by decide))
    have v48 : TpM τ40 T N := v19.fr f42 (by decide) (by decide) (by simp) (by decide)
    have u49 : IV (gV τ40 22 0 11) 0 400 := i41.1 22 0 11
    have a50 : gV τ40 22 0 6 = (gV σ 22 0 6) := (show gV τ40 22 0 6 = (gV σ 22 0 6) from (f42.1 22 0 (6) (by decide) (by decide)).trans a27)
    have q51 : (gV τ40 22 0 6).toInt = (gV σ 22 0 6).toInt := congrArg Int32.toInt a50
    have a52 : gV τ40 23 0 150 = (gV σ 23 0 150) := (show gV τ40 23 0 150 = (gV σ 23 0 150) from (f42.1 23 0 (150) (by decide) (by decide)).trans a29)
    have q53 : (gV τ40 23 0 150).toInt = (gV σ 23 0 150).toInt := congrArg Int32.toInt a52
    have a54 : gV τ40 23 0 152 = (gV σ 23 0 152) := (show gV τ40 23 0 152 = (gV σ 23 0 152) from (f42.1 23 0 (152) (by decide) (by decide)).trans a31)
    have q55 : (gV τ40 23 0 152).toInt = (gV σ 23 0 152).toInt := congrArg Int32.toInt a54
    have a56 : gV τ40 23 0 188 = (gV σ 23 0 188) := (show gV τ40 23 0 188 = (gV σ 23 0 188) from (f42.1 23 0 (188) (by decide) (by decide)).trans a33)
    have q57 : (gV τ40 23 0 188).toInt = (gV σ 23 0 188).toInt := congrArg Int32.toInt a56
    rcases h46 with ⟨h46_0, h46_1, h46_2, h46_3, h46_4⟩ | ⟨h46_0, h46_1, h46_2, h46_3, h46_4, h46_5, h46_6⟩ | ⟨h46_0, h46_1, h46_2, h46_3, h46_4, h46_5, h46_6⟩
    · skip
      have b58 : IV x43 (-1) (-1) := ⟨by omega, by omega⟩
      have b59 : IV (gV τ40 22 0 16) 1 1 := ⟨by omega, by omega⟩
      show MW p l e _ s m args below meth c _ 2 G 0 0 41 [some (.ref (G.1 22 0)), some (.int (gV σ 23 0 188))] [.int x43, .int x35, .ref (G.1 23 0)] τ40
      refine as_23 C b36 (by decide) rfl dX12_takeStone_41 ?_
      refine m_tops (fun τ60 eτ60 => ?_)
      have i61 : Inv τ60 := eτ60 ▸ Inv.putRo i41 (by omega)
      have f62 : Fr MS_X12_takeStoneE AS_X12_takeStoneE σ τ60 := eτ60 ▸ Fr.put (g45) (Or.inr (by decide))
      have v63 : Pb τ60 := v47.put eτ60 (Or.inr (by omega))
      have v64 : TpM τ60 T N := v48.put eτ60 (Or.inl (by decide)) (by decide)
      refine m_aload_n C dX12_takeStone_42 rfl rfl ?_
      refine g_22_0 C q4_116 dX12_takeStone_43 ?_
      refine m_sipush (v := 193) C dX12_takeStone_46 (by decide) ?_
      refine m_iload_n C dX12_takeStone_49 rfl rfl ?_
      refine m_iadd C dX12_takeStone_50 ?_
      refine m_topi (fun x65 ex65 => ?_)
      have tx65 : x65.toInt = 193 + (gV σ 23 0 188).toInt := by rw [ex65, ti_addv kc_193 b10 (by decide), kt_193]
      have b66 : IV x65 193 196 := by rw [ex65]; exact iv_add kc_193 b10 (by decide)
      refine m_aload_n C dX12_takeStone_51 rfl rfl ?_
      refine g_22_16 C q4_132 dX12_takeStone_52 ?_
      refine m_eqs (w := (gV τ40 22 0 16)) (show gV τ60 22 0 16 = (gV τ40 22 0 16) from gV_put eτ60 rfl) ?_
      refine m_if_ne (tgt := 68) C dX12_takeStone_55 (by decide) (fun c67 => ?_) (fun c67 => ?_)
      · have f68 : (gV τ40 22 0 16).toInt ≠ 0 := by
          have q : _ := c67
          simp only [ti_nle, ti_nlt, ti_le, ti_lt, ti_eq, ti_ne, Classical.not_not, kt_0] at q
          omega
        refine m_iconst (v := 0) C dX12_takeStone_68 (by decide) ?_
        refine as_23 C b66 (by decide) rfl dX12_takeStone_69 ?_
        refine m_tops (fun τ69 eτ69 => ?_)
        have i70 : Inv τ69 := eτ69 ▸ Inv.putR0 i61 (by omega) kt_0
        have f71 : Fr MS_X12_takeStoneE AS_X12_takeStoneE σ τ69 := eτ69 ▸ Fr.put (f62) (Or.inr (by decide))
        have v72 : Pb τ69 := v63.put eτ69 (Or.inr (by omega))
        have v73 : TpM τ69 T N := v64.put eτ69 (Or.inl (by decide)) (by decide)
        refine m_aload_n C dX12_takeStone_70 rfl rfl ?_
        refine g_22_0 C q4_116 dX12_takeStone_71 ?_
        refine m_sipush (v := 188) C dX12_takeStone_74 (by decide) ?_
        refine m_dup2 C dX12_takeStone_77 rfl rfl ?_
        refine al_23 C kc_188 (by decide) kn_188 dX12_takeStone_78 ?_
        refine m_eqs (w := (gV σ 23 0 188)) (show gV τ69 23 0 188 = (gV σ 23 0 188) from (gV_putn eτ69 (Or.inr (Or.inr (nat_ne b66 (by decide))))).trans (show gV τ60 23 0 188 = (gV σ 23 0 188) from (gV_putn eτ60 (Or.inr (Or.inr (nat_ne b36 (by decide))))).trans a56)) ?_
        refine m_iconst (v := 1) C dX12_takeStone_79 (by decide) ?_
        refine m_iadd C dX12_takeStone_80 ?_
        refine m_topi (fun x74 ex74 => ?_)
        have tx74 : x74.toInt = (gV σ 23 0 188).toInt + 1 := by rw [ex74, ti_addv b10 kc_1 (by decide), kt_1]
        have b75 : IV x74 1 4 := by rw [ex74]; exact iv_add b10 kc_1 (by decide)
        refine as_23 C kc_188 (by decide) kn_188 dX12_takeStone_81 ?_
        refine m_tops (fun τ76 eτ76 => ?_)
        have i77 : Inv τ76 := eτ76 ▸ Inv.putR i70 (by decide) (iv_wk b75 (by decide))
        have f78 : Fr MS_X12_takeStoneE AS_X12_takeStoneE σ τ76 := eτ76 ▸ Fr.put (f71) (Or.inr (by decide))
        have v79 : Pb τ76 := v72.put eτ76 (Or.inr (by omega))
        have v80 : TpM τ76 T N := v73.put eτ76 (Or.inl (by decide)) (by decide)
        refine m_aload_n C dX12_takeStone_82 rfl rfl ?_
        have a81 : gV τ76 22 0 6 = (gV σ 22 0 6) := (show gV τ76 22 0 6 = (gV σ 22 0 6) from gV_put eτ76 (show gV τ69 22 0 6 = (gV σ 22 0 6) from gV_put eτ69 (show gV τ60 22 0 6 = (gV σ 22 0 6) from gV_put eτ60 a50)))
        have q82 : (gV τ76 22 0 6).toInt = (gV σ 22 0 6).toInt := congrArg Int32.toInt a81
        have a83 : gV τ76 23 0 150 = (gV σ 23 0 150) := (show gV τ76 23 0 150 = (gV σ 23 0 150) from gV_put eτ76 (show gV τ69 23 0 150 = (gV σ 23 0 150) from (gV_putn eτ69 (Or.inr (Or.inr (nat_ne b66 (by decide))))).trans (show gV τ60 23 0 150 = (gV σ 23 0 150) from (gV_putn eτ60 (Or.inr (Or.inr (nat_ne b36 (by decide))))).trans a52)))
        have q84 : (gV τ76 23 0 150).toInt = (gV σ 23 0 150).toInt := congrArg Int32.toInt a83
        have a85 : gV τ76 23 0 152 = (gV σ 23 0 152) := (show gV τ76 23 0 152 = (gV σ 23 0 152) from gV_put eτ76 (show gV τ69 23 0 152 = (gV σ 23 0 152) from (gV_putn eτ69 (Or.inr (Or.inr (nat_ne b66 (by decide))))).trans (show gV τ60 23 0 152 = (gV σ 23 0 152) from (gV_putn eτ60 (Or.inr (Or.inr (nat_ne b36 (by decide))))).trans a54)))
        have q86 : (gV τ76 23 0 152).toInt = (gV σ 23 0 152).toInt := congrArg Int32.toInt a85
        have a87 : gV τ76 22 0 11 = (gV τ40 22 0 11) := (show gV τ76 22 0 11 = (gV τ40 22 0 11) from gV_put eτ76 (show gV τ69 22 0 11 = (gV τ40 22 0 11) from gV_put eτ69 (show gV τ60 22 0 11 = (gV τ40 22 0 11) from gV_put eτ60 rfl)))
        have q88 : (gV τ76 22 0 11).toInt = (gV τ40 22 0 11).toInt := congrArg Int32.toInt a87
        have a89 : gV τ76 22 0 12 = (gV τ40 22 0 12) := (show gV τ76 22 0 12 = (gV τ40 22 0 12) from gV_put eτ76 (show gV τ69 22 0 12 = (gV τ40 22 0 12) from gV_put eτ69 (show gV τ60 22 0 12 = (gV τ40 22 0 12) from gV_put eτ60 rfl)))
        have q90 : (gV τ76 22 0 12).toInt = (gV τ40 22 0 12).toInt := congrArg Int32.toInt a89
        have a91 : gV τ76 22 0 16 = (gV τ40 22 0 16) := (show gV τ76 22 0 16 = (gV τ40 22 0 16) from gV_put eτ76 (show gV τ69 22 0 16 = (gV τ40 22 0 16) from gV_put eτ69 (show gV τ60 22 0 16 = (gV τ40 22 0 16) from gV_put eτ60 rfl)))
        have q92 : (gV τ76 22 0 16).toInt = (gV τ40 22 0 16).toInt := congrArg Int32.toInt a91
        have a93 : gV τ76 23 0 188 = x74 := (show gV τ76 23 0 188 = x74 from gV_put eτ76 (gV_self _ _ _ _ _))
        have q94 : (gV τ76 23 0 188).toInt = x74.toInt := congrArg Int32.toInt a93
        refine m_callV (n := 0) (ci := 11) (st := []) C (c_X12_takeSignE l G τ76 T N (tE T N (tE T N i))  i77 v80 (fun h => absurd h (by omega)) (by omega)) (by decide) (by decide) rfl rfl rfl q5_15 q5_12 q5_14 q0_32 q1_7 (by decide +kernel) rfl (by decide) (by decide) rfl (Nat.le_of_ble_eq_true rfl) dX12_takeStone_83 ?_
        rintro _ τ95 ⟨rfl, i96, f97, h101⟩
        have g100 : Fr MS_X12_takeStoneE AS_X12_takeStoneE σ τ95 := Fr.call (f78) f97 (by decide)
        have v102 : Pb τ95 := v79.call (fun k => f97.1 23 0 k (by simp) (by decide))
        have v103 : TpM τ95 T N := v80.fr f97 (by decide) (by decide) (by simp) (by decide)
        have u104 : IV (gV τ95 22 0 11) 0 400 := i96.1 22 0 11
        have a105 : gV τ95 22 0 6 = (gV σ 22 0 6) := (show gV τ95 22 0 6 = (gV σ 22 0 6) from (f97.1 22 0 (6) (by decide) (by decide)).trans a81)
        have q106 : (gV τ95 22 0 6).toInt = (gV σ 22 0 6).toInt := congrArg Int32.toInt a105
        have a107 : gV τ95 23 0 150 = (gV σ 23 0 150) := (show gV τ95 23 0 150 = (gV σ 23 0 150) from (f97.1 23 0 (150) (by decide) (by decide)).trans a83)
        have q108 : (gV τ95 23 0 150).toInt = (gV σ 23 0 150).toInt := congrArg Int32.toInt a107
        have a109 : gV τ95 23 0 152 = (gV σ 23 0 152) := (show gV τ95 23 0 152 = (gV σ 23 0 152) from (f97.1 23 0 (152) (by decide) (by decide)).trans a85)
        have q110 : (gV τ95 23 0 152).toInt = (gV σ 23 0 152).toInt := congrArg Int32.toInt a109
        have a111 : gV τ95 23 0 188 = x74 := (show gV τ95 23 0 188 = x74 from (f97.1 23 0 (188) (by decide) (by decide)).trans a93)
        have q112 : (gV τ95 23 0 188).toInt = x74.toInt := congrArg Int32.toInt a111
        rcases h101 with ⟨h101_0, h101_1, h101_2, h101_3⟩ | ⟨h101_0, h101_1, h101_2, h101_3, h101_4⟩ | ⟨h101_0, h101_1, h101_2, h101_3, h101_4, h101_5⟩
        · skip
          show MW p l e _ s m args below meth c _ 2 G 0 0 86 [some (.ref (G.1 22 0)), some (.int (gV σ 23 0 188))] [] τ95
          exact m_vret C hr hlk (by decide) (by decide) dX12_takeStone_86 ⟨rfl, i96, g100, (by have qd := sto_1 T N cc i (by omega) (by omega); exact Or.inl ⟨by omega, by omega, by omega, by omega, by omega, by omega, v102⟩)⟩
        · skip
          exfalso; omega
        · skip
          exfalso; omega
      · exfalso
        have q : _ := c67
        simp only [ti_nle, ti_nlt, ti_le, ti_lt, ti_eq, ti_ne, Classical.not_not, kt_0] at q
        have q1 := b59; have q2 := kc_0; omega
    · skip
      have b114 : IV x43 (-1) (-1) := ⟨by omega, by omega⟩
      have b115 : IV (gV τ40 22 0 16) 2 2 := ⟨by omega, by omega⟩
      show MW p l e _ s m args below meth c _ 2 G 0 0 41 [some (.ref (G.1 22 0)), some (.int (gV σ 23 0 188))] [.int x43, .int x35, .ref (G.1 23 0)] τ40
      refine as_23 C b36 (by decide) rfl dX12_takeStone_41 ?_
      refine m_tops (fun τ116 eτ116 => ?_)
      have i117 : Inv τ116 := eτ116 ▸ Inv.putRo i41 (by omega)
      have f118 : Fr MS_X12_takeStoneE AS_X12_takeStoneE σ τ116 := eτ116 ▸ Fr.put (g45) (Or.inr (by decide))
      have v119 : Pb τ116 := v47.put eτ116 (Or.inr (by omega))
      have v120 : TpM τ116 T N := v48.put eτ116 (Or.inl (by decide)) (by decide)
      refine m_aload_n C dX12_takeStone_42 rfl rfl ?_
      refine g_22_0 C q4_116 dX12_takeStone_43 ?_
      refine m_sipush (v := 193) C dX12_takeStone_46 (by decide) ?_
      refine m_iload_n C dX12_takeStone_49 rfl rfl ?_
      refine m_iadd C dX12_takeStone_50 ?_
      refine m_topi (fun x121 ex121 => ?_)
      have tx121 : x121.toInt = 193 + (gV σ 23 0 188).toInt := by rw [ex121, ti_addv kc_193 b10 (by decide), kt_193]
      have b122 : IV x121 193 196 := by rw [ex121]; exact iv_add kc_193 b10 (by decide)
      refine m_aload_n C dX12_takeStone_51 rfl rfl ?_
      refine g_22_16 C q4_132 dX12_takeStone_52 ?_
      refine m_eqs (w := (gV τ40 22 0 16)) (show gV τ116 22 0 16 = (gV τ40 22 0 16) from gV_put eτ116 rfl) ?_
      refine m_if_ne (tgt := 68) C dX12_takeStone_55 (by decide) (fun c123 => ?_) (fun c123 => ?_)
      · have f124 : (gV τ40 22 0 16).toInt ≠ 0 := by
          have q : _ := c123
          simp only [ti_nle, ti_nlt, ti_le, ti_lt, ti_eq, ti_ne, Classical.not_not, kt_0] at q
          omega
        refine m_iconst (v := 0) C dX12_takeStone_68 (by decide) ?_
        refine as_23 C b122 (by decide) rfl dX12_takeStone_69 ?_
        refine m_tops (fun τ125 eτ125 => ?_)
        have i126 : Inv τ125 := eτ125 ▸ Inv.putR0 i117 (by omega) kt_0
        have f127 : Fr MS_X12_takeStoneE AS_X12_takeStoneE σ τ125 := eτ125 ▸ Fr.put (f118) (Or.inr (by decide))
        have v128 : Pb τ125 := v119.put eτ125 (Or.inr (by omega))
        have v129 : TpM τ125 T N := v120.put eτ125 (Or.inl (by decide)) (by decide)
        refine m_aload_n C dX12_takeStone_70 rfl rfl ?_
        refine g_22_0 C q4_116 dX12_takeStone_71 ?_
        refine m_sipush (v := 188) C dX12_takeStone_74 (by decide) ?_
        refine m_dup2 C dX12_takeStone_77 rfl rfl ?_
        refine al_23 C kc_188 (by decide) kn_188 dX12_takeStone_78 ?_
        refine m_eqs (w := (gV σ 23 0 188)) (show gV τ125 23 0 188 = (gV σ 23 0 188) from (gV_putn eτ125 (Or.inr (Or.inr (nat_ne b122 (by decide))))).trans (show gV τ116 23 0 188 = (gV σ 23 0 188) from (gV_putn eτ116 (Or.inr (Or.inr (nat_ne b36 (by decide))))).trans a56)) ?_
        refine m_iconst (v := 1) C dX12_takeStone_79 (by decide) ?_
        refine m_iadd C dX12_takeStone_80 ?_
        refine m_topi (fun x130 ex130 => ?_)
        have tx130 : x130.toInt = (gV σ 23 0 188).toInt + 1 := by rw [ex130, ti_addv b10 kc_1 (by decide), kt_1]
        have b131 : IV x130 1 4 := by rw [ex130]; exact iv_add b10 kc_1 (by decide)
        refine as_23 C kc_188 (by decide) kn_188 dX12_takeStone_81 ?_
        refine m_tops (fun τ132 eτ132 => ?_)
        have i133 : Inv τ132 := eτ132 ▸ Inv.putR i126 (by decide) (iv_wk b131 (by decide))
        have f134 : Fr MS_X12_takeStoneE AS_X12_takeStoneE σ τ132 := eτ132 ▸ Fr.put (f127) (Or.inr (by decide))
        have v135 : Pb τ132 := v128.put eτ132 (Or.inr (by omega))
        have v136 : TpM τ132 T N := v129.put eτ132 (Or.inl (by decide)) (by decide)
        refine m_aload_n C dX12_takeStone_82 rfl rfl ?_
        have a137 : gV τ132 22 0 6 = (gV σ 22 0 6) := (show gV τ132 22 0 6 = (gV σ 22 0 6) from gV_put eτ132 (show gV τ125 22 0 6 = (gV σ 22 0 6) from gV_put eτ125 (show gV τ116 22 0 6 = (gV σ 22 0 6) from gV_put eτ116 a50)))
        have q138 : (gV τ132 22 0 6).toInt = (gV σ 22 0 6).toInt := congrArg Int32.toInt a137
        have a139 : gV τ132 23 0 150 = (gV σ 23 0 150) := (show gV τ132 23 0 150 = (gV σ 23 0 150) from gV_put eτ132 (show gV τ125 23 0 150 = (gV σ 23 0 150) from (gV_putn eτ125 (Or.inr (Or.inr (nat_ne b122 (by decide))))).trans (show gV τ116 23 0 150 = (gV σ 23 0 150) from (gV_putn eτ116 (Or.inr (Or.inr (nat_ne b36 (by decide))))).trans a52)))
        have q140 : (gV τ132 23 0 150).toInt = (gV σ 23 0 150).toInt := congrArg Int32.toInt a139
        have a141 : gV τ132 23 0 152 = (gV σ 23 0 152) := (show gV τ132 23 0 152 = (gV σ 23 0 152) from gV_put eτ132 (show gV τ125 23 0 152 = (gV σ 23 0 152) from (gV_putn eτ125 (Or.inr (Or.inr (nat_ne b122 (by decide))))).trans (show gV τ116 23 0 152 = (gV σ 23 0 152) from (gV_putn eτ116 (Or.inr (Or.inr (nat_ne b36 (by decide))))).trans a54)))
        have q142 : (gV τ132 23 0 152).toInt = (gV σ 23 0 152).toInt := congrArg Int32.toInt a141
        have a143 : gV τ132 22 0 11 = (gV τ40 22 0 11) := (show gV τ132 22 0 11 = (gV τ40 22 0 11) from gV_put eτ132 (show gV τ125 22 0 11 = (gV τ40 22 0 11) from gV_put eτ125 (show gV τ116 22 0 11 = (gV τ40 22 0 11) from gV_put eτ116 rfl)))
        have q144 : (gV τ132 22 0 11).toInt = (gV τ40 22 0 11).toInt := congrArg Int32.toInt a143
        have a145 : gV τ132 22 0 12 = (gV τ40 22 0 12) := (show gV τ132 22 0 12 = (gV τ40 22 0 12) from gV_put eτ132 (show gV τ125 22 0 12 = (gV τ40 22 0 12) from gV_put eτ125 (show gV τ116 22 0 12 = (gV τ40 22 0 12) from gV_put eτ116 rfl)))
        have q146 : (gV τ132 22 0 12).toInt = (gV τ40 22 0 12).toInt := congrArg Int32.toInt a145
        have a147 : gV τ132 22 0 16 = (gV τ40 22 0 16) := (show gV τ132 22 0 16 = (gV τ40 22 0 16) from gV_put eτ132 (show gV τ125 22 0 16 = (gV τ40 22 0 16) from gV_put eτ125 (show gV τ116 22 0 16 = (gV τ40 22 0 16) from gV_put eτ116 rfl)))
        have q148 : (gV τ132 22 0 16).toInt = (gV τ40 22 0 16).toInt := congrArg Int32.toInt a147
        have a149 : gV τ132 23 0 188 = x130 := (show gV τ132 23 0 188 = x130 from gV_put eτ132 (gV_self _ _ _ _ _))
        have q150 : (gV τ132 23 0 188).toInt = x130.toInt := congrArg Int32.toInt a149
        refine m_callV (n := 0) (ci := 11) (st := []) C (c_X12_takeSignE l G τ132 T N (tE T N (tE T N i))  i133 v136 (fun h => absurd h (by omega)) (by omega)) (by decide) (by decide) rfl rfl rfl q5_15 q5_12 q5_14 q0_32 q1_7 (by decide +kernel) rfl (by decide) (by decide) rfl (Nat.le_of_ble_eq_true rfl) dX12_takeStone_83 ?_
        rintro _ τ151 ⟨rfl, i152, f153, h157⟩
        have g156 : Fr MS_X12_takeStoneE AS_X12_takeStoneE σ τ151 := Fr.call (f134) f153 (by decide)
        have v158 : Pb τ151 := v135.call (fun k => f153.1 23 0 k (by simp) (by decide))
        have v159 : TpM τ151 T N := v136.fr f153 (by decide) (by decide) (by simp) (by decide)
        have u160 : IV (gV τ151 22 0 11) 0 400 := i152.1 22 0 11
        have a161 : gV τ151 22 0 6 = (gV σ 22 0 6) := (show gV τ151 22 0 6 = (gV σ 22 0 6) from (f153.1 22 0 (6) (by decide) (by decide)).trans a137)
        have q162 : (gV τ151 22 0 6).toInt = (gV σ 22 0 6).toInt := congrArg Int32.toInt a161
        have a163 : gV τ151 23 0 150 = (gV σ 23 0 150) := (show gV τ151 23 0 150 = (gV σ 23 0 150) from (f153.1 23 0 (150) (by decide) (by decide)).trans a139)
        have q164 : (gV τ151 23 0 150).toInt = (gV σ 23 0 150).toInt := congrArg Int32.toInt a163
        have a165 : gV τ151 23 0 152 = (gV σ 23 0 152) := (show gV τ151 23 0 152 = (gV σ 23 0 152) from (f153.1 23 0 (152) (by decide) (by decide)).trans a141)
        have q166 : (gV τ151 23 0 152).toInt = (gV σ 23 0 152).toInt := congrArg Int32.toInt a165
        have a167 : gV τ151 23 0 188 = x130 := (show gV τ151 23 0 188 = x130 from (f153.1 23 0 (188) (by decide) (by decide)).trans a149)
        have q168 : (gV τ151 23 0 188).toInt = x130.toInt := congrArg Int32.toInt a167
        rcases h157 with ⟨h157_0, h157_1, h157_2, h157_3⟩ | ⟨h157_0, h157_1, h157_2, h157_3, h157_4⟩ | ⟨h157_0, h157_1, h157_2, h157_3, h157_4, h157_5⟩
        · skip
          show MW p l e _ s m args below meth c _ 2 G 0 0 86 [some (.ref (G.1 22 0)), some (.int (gV σ 23 0 188))] [] τ151
          exact m_vret C hr hlk (by decide) (by decide) dX12_takeStone_86 ⟨rfl, i152, g156, (by have qd := sto_2 T N cc i (by omega) (by omega) (by omega); exact Or.inl ⟨by omega, by omega, by omega, by omega, by omega, by omega, v158⟩)⟩
        · skip
          exfalso; omega
        · skip
          exfalso; omega
      · exfalso
        have q : _ := c123
        simp only [ti_nle, ti_nlt, ti_le, ti_lt, ti_eq, ti_ne, Classical.not_not, kt_0] at q
        have q1 := b115; have q2 := kc_0; omega
    · skip
      have q170 : 1 ≤ tV T (tE T N i) ∧ tV T (tE T N i) ≤ 20 := by omega
      clear h46_1
      have v171 : CuM T N (tE T N (tE T N i)) τ40 := ⟨h46_4, h46_5⟩
      clear h46_4
      have b172 : IV (gV τ40 22 0 16) 0 0 := ⟨by omega, by omega⟩
      show MW p l e _ s m args below meth c _ 2 G 0 0 41 [some (.ref (G.1 22 0)), some (.int (gV σ 23 0 188))] [.int x43, .int x35, .ref (G.1 23 0)] τ40
      refine as_23 C b36 (by decide) rfl dX12_takeStone_41 ?_
      refine m_tops (fun τ173 eτ173 => ?_)
      have i174 : Inv τ173 := eτ173 ▸ Inv.putRo i41 (by omega)
      have f175 : Fr MS_X12_takeStoneE AS_X12_takeStoneE σ τ173 := eτ173 ▸ Fr.put (g45) (Or.inr (by decide))
      have v176 : Pb τ173 := v47.put eτ173 (Or.inr (by omega))
      have v177 : TpM τ173 T N := v48.put eτ173 (Or.inl (by decide)) (by decide)
      have v178 : LW T N (tE T N (tE T N i)) τ173.2.2.1 := by rw [eτ173]; exact h46_6
      have v179 : CuM T N (tE T N (tE T N i)) τ173 := CuM.put v171 eτ173 (Or.inl (by decide))
      refine m_aload_n C dX12_takeStone_42 rfl rfl ?_
      refine g_22_0 C q4_116 dX12_takeStone_43 ?_
      refine m_sipush (v := 193) C dX12_takeStone_46 (by decide) ?_
      refine m_iload_n C dX12_takeStone_49 rfl rfl ?_
      refine m_iadd C dX12_takeStone_50 ?_
      refine m_topi (fun x180 ex180 => ?_)
      have tx180 : x180.toInt = 193 + (gV σ 23 0 188).toInt := by rw [ex180, ti_addv kc_193 b10 (by decide), kt_193]
      have b181 : IV x180 193 196 := by rw [ex180]; exact iv_add kc_193 b10 (by decide)
      refine m_aload_n C dX12_takeStone_51 rfl rfl ?_
      refine g_22_16 C q4_132 dX12_takeStone_52 ?_
      refine m_eqs (w := (gV τ40 22 0 16)) (show gV τ173 22 0 16 = (gV τ40 22 0 16) from gV_put eτ173 rfl) ?_
      refine m_if_ne (tgt := 68) C dX12_takeStone_55 (by decide) (fun c182 => ?_) (fun c182 => ?_)
      · exfalso
        have q : _ := c182
        simp only [ti_nle, ti_nlt, ti_le, ti_lt, ti_eq, ti_ne, Classical.not_not, kt_0] at q
        have q1 := b172; have q2 := kc_0; omega
      · have f184 : (gV τ40 22 0 16).toInt = 0 := by
          have q : _ := c182
          simp only [ti_nle, ti_nlt, ti_le, ti_lt, ti_eq, ti_ne, Classical.not_not, kt_0] at q
          omega
        refine m_aload_n C dX12_takeStone_58 rfl rfl ?_
        refine m_iconst (v := 0) C dX12_takeStone_59 (by decide) ?_
        refine m_iconst (v := 3) C dX12_takeStone_60 (by decide) ?_
        refine m_iconst (v := 0) C dX12_takeStone_61 (by decide) ?_
        have a185 : gV τ173 22 0 6 = (gV σ 22 0 6) := (show gV τ173 22 0 6 = (gV σ 22 0 6) from gV_put eτ173 a50)
        have q186 : (gV τ173 22 0 6).toInt = (gV σ 22 0 6).toInt := congrArg Int32.toInt a185
        have a187 : gV τ173 23 0 150 = (gV σ 23 0 150) := (show gV τ173 23 0 150 = (gV σ 23 0 150) from (gV_putn eτ173 (Or.inr (Or.inr (nat_ne b36 (by decide))))).trans a52)
        have q188 : (gV τ173 23 0 150).toInt = (gV σ 23 0 150).toInt := congrArg Int32.toInt a187
        have a189 : gV τ173 23 0 152 = (gV σ 23 0 152) := (show gV τ173 23 0 152 = (gV σ 23 0 152) from (gV_putn eτ173 (Or.inr (Or.inr (nat_ne b36 (by decide))))).trans a54)
        have q190 : (gV τ173 23 0 152).toInt = (gV σ 23 0 152).toInt := congrArg Int32.toInt a189
        have a191 : gV τ173 23 0 188 = (gV σ 23 0 188) := (show gV τ173 23 0 188 = (gV σ 23 0 188) from (gV_putn eτ173 (Or.inr (Or.inr (nat_ne b36 (by decide))))).trans a56)
        have q192 : (gV τ173 23 0 188).toInt = (gV σ 23 0 188).toInt := congrArg Int32.toInt a191
        have a193 : gV τ173 22 0 11 = (gV τ40 22 0 11) := (show gV τ173 22 0 11 = (gV τ40 22 0 11) from gV_put eτ173 rfl)
        have q194 : (gV τ173 22 0 11).toInt = (gV τ40 22 0 11).toInt := congrArg Int32.toInt a193
        have a195 : gV τ173 22 0 12 = (gV τ40 22 0 12) := (show gV τ173 22 0 12 = (gV τ40 22 0 12) from gV_put eτ173 rfl)
        have q196 : (gV τ173 22 0 12).toInt = (gV τ40 22 0 12).toInt := congrArg Int32.toInt a195
        have a197 : gV τ173 22 0 16 = (gV τ40 22 0 16) := (show gV τ173 22 0 16 = (gV τ40 22 0 16) from gV_put eτ173 rfl)
        have q198 : (gV τ173 22 0 16).toInt = (gV τ40 22 0 16).toInt := congrArg Int32.toInt a197
        have q199 := kt_0
        have q200 := kt_3
        have q201 := kt_0
        refine m_callV (n := 3) (ci := 11) (st := [.int x180, .ref (G.1 23 0)]) C (c_X12_takeNumberE l G τ173 T N (tE T N (tE T N i)) (0) (3) (0) i174 v177 v179.1 (by omega)) (by decide) (by decide) rfl rfl rfl q5_7 q5_4 q5_6 q0_30 q1_7 (by decide +kernel) rfl (by decide) (by decide) rfl (Nat.le_of_ble_eq_true rfl) dX12_takeStone_62 ?_
        rintro _ τ202 ⟨x205, rfl, i203, f204, b206, h208⟩
        have g207 : Fr MS_X12_takeStoneE AS_X12_takeStoneE σ τ202 := Fr.call (f175) f204 (by decide)
        have v209 : Pb τ202 := v176.call (fun k => f204.1 23 0 k (by simp) (by decide))
        have v210 : TpM τ202 T N := v177.fr f204 (by decide) (by decide) (by simp) (by decide)
        have u211 : IV (gV τ202 22 0 11) 0 400 := i203.1 22 0 11
        have a212 : gV τ202 22 0 6 = (gV σ 22 0 6) := (show gV τ202 22 0 6 = (gV σ 22 0 6) from (f204.1 22 0 (6) (by decide) (by decide)).trans a185)
        have q213 : (gV τ202 22 0 6).toInt = (gV σ 22 0 6).toInt := congrArg Int32.toInt a212
        have a214 : gV τ202 23 0 150 = (gV σ 23 0 150) := (show gV τ202 23 0 150 = (gV σ 23 0 150) from (f204.1 23 0 (150) (by decide) (by decide)).trans a187)
        have q215 : (gV τ202 23 0 150).toInt = (gV σ 23 0 150).toInt := congrArg Int32.toInt a214
        have a216 : gV τ202 23 0 152 = (gV σ 23 0 152) := (show gV τ202 23 0 152 = (gV σ 23 0 152) from (f204.1 23 0 (152) (by decide) (by decide)).trans a189)
        have q217 : (gV τ202 23 0 152).toInt = (gV σ 23 0 152).toInt := congrArg Int32.toInt a216
        have a218 : gV τ202 23 0 188 = (gV σ 23 0 188) := (show gV τ202 23 0 188 = (gV σ 23 0 188) from (f204.1 23 0 (188) (by decide) (by decide)).trans a191)
        have q219 : (gV τ202 23 0 188).toInt = (gV σ 23 0 188).toInt := congrArg Int32.toInt a218
        rcases h208 with ⟨h208_0, h208_1, h208_2, h208_3, h208_4⟩ | ⟨h208_0, h208_1, h208_2, h208_3, h208_4, h208_5, h208_6⟩ | ⟨h208_0, h208_1, h208_2, h208_3, h208_4, h208_5, h208_6⟩
        · skip
          have b220 : IV x205 (-1) (-1) := ⟨by omega, by omega⟩
          have b221 : IV (gV τ202 22 0 16) 1 1 := ⟨by omega, by omega⟩
          show MW p l e _ s m args below meth c _ 2 G 0 0 65 [some (.ref (G.1 22 0)), some (.int (gV σ 23 0 188))] [.int x205, .int x180, .ref (G.1 23 0)] τ202
          refine m_goto (tgt := 69) C dX12_takeStone_65 (by decide) ?_
          refine as_23 C b181 (by decide) rfl dX12_takeStone_69 ?_
          refine m_tops (fun τ222 eτ222 => ?_)
          have i223 : Inv τ222 := eτ222 ▸ Inv.putRo i203 (by omega)
          have f224 : Fr MS_X12_takeStoneE AS_X12_takeStoneE σ τ222 := eτ222 ▸ Fr.put (g207) (Or.inr (by decide))
          have v225 : Pb τ222 := v209.put eτ222 (Or.inr (by omega))
          have v226 : TpM τ222 T N := v210.put eτ222 (Or.inl (by decide)) (by decide)
          refine m_aload_n C dX12_takeStone_70 rfl rfl ?_
          refine g_22_0 C q4_116 dX12_takeStone_71 ?_
          refine m_sipush (v := 188) C dX12_takeStone_74 (by decide) ?_
          refine m_dup2 C dX12_takeStone_77 rfl rfl ?_
          refine al_23 C kc_188 (by decide) kn_188 dX12_takeStone_78 ?_
          refine m_eqs (w := (gV σ 23 0 188)) (show gV τ222 23 0 188 = (gV σ 23 0 188) from (gV_putn eτ222 (Or.inr (Or.inr (nat_ne b181 (by decide))))).trans a218) ?_
          refine m_iconst (v := 1) C dX12_takeStone_79 (by decide) ?_
          refine m_iadd C dX12_takeStone_80 ?_
          refine m_topi (fun x227 ex227 => ?_)
          have tx227 : x227.toInt = (gV σ 23 0 188).toInt + 1 := by rw [ex227, ti_addv b10 kc_1 (by decide), kt_1]
          have b228 : IV x227 1 4 := by rw [ex227]; exact iv_add b10 kc_1 (by decide)
          refine as_23 C kc_188 (by decide) kn_188 dX12_takeStone_81 ?_
          refine m_tops (fun τ229 eτ229 => ?_)
          have i230 : Inv τ229 := eτ229 ▸ Inv.putR i223 (by decide) (iv_wk b228 (by decide))
          have f231 : Fr MS_X12_takeStoneE AS_X12_takeStoneE σ τ229 := eτ229 ▸ Fr.put (f224) (Or.inr (by decide))
          have v232 : Pb τ229 := v225.put eτ229 (Or.inr (by omega))
          have v233 : TpM τ229 T N := v226.put eτ229 (Or.inl (by decide)) (by decide)
          refine m_aload_n C dX12_takeStone_82 rfl rfl ?_
          have a234 : gV τ229 22 0 6 = (gV σ 22 0 6) := (show gV τ229 22 0 6 = (gV σ 22 0 6) from gV_put eτ229 (show gV τ222 22 0 6 = (gV σ 22 0 6) from gV_put eτ222 a212))
          have q235 : (gV τ229 22 0 6).toInt = (gV σ 22 0 6).toInt := congrArg Int32.toInt a234
          have a236 : gV τ229 23 0 150 = (gV σ 23 0 150) := (show gV τ229 23 0 150 = (gV σ 23 0 150) from gV_put eτ229 (show gV τ222 23 0 150 = (gV σ 23 0 150) from (gV_putn eτ222 (Or.inr (Or.inr (nat_ne b181 (by decide))))).trans a214))
          have q237 : (gV τ229 23 0 150).toInt = (gV σ 23 0 150).toInt := congrArg Int32.toInt a236
          have a238 : gV τ229 23 0 152 = (gV σ 23 0 152) := (show gV τ229 23 0 152 = (gV σ 23 0 152) from gV_put eτ229 (show gV τ222 23 0 152 = (gV σ 23 0 152) from (gV_putn eτ222 (Or.inr (Or.inr (nat_ne b181 (by decide))))).trans a216))
          have q239 : (gV τ229 23 0 152).toInt = (gV σ 23 0 152).toInt := congrArg Int32.toInt a238
          have a240 : gV τ229 22 0 11 = (gV τ202 22 0 11) := (show gV τ229 22 0 11 = (gV τ202 22 0 11) from gV_put eτ229 (show gV τ222 22 0 11 = (gV τ202 22 0 11) from gV_put eτ222 rfl))
          have q241 : (gV τ229 22 0 11).toInt = (gV τ202 22 0 11).toInt := congrArg Int32.toInt a240
          have a242 : gV τ229 22 0 12 = (gV τ202 22 0 12) := (show gV τ229 22 0 12 = (gV τ202 22 0 12) from gV_put eτ229 (show gV τ222 22 0 12 = (gV τ202 22 0 12) from gV_put eτ222 rfl))
          have q243 : (gV τ229 22 0 12).toInt = (gV τ202 22 0 12).toInt := congrArg Int32.toInt a242
          have a244 : gV τ229 22 0 16 = (gV τ202 22 0 16) := (show gV τ229 22 0 16 = (gV τ202 22 0 16) from gV_put eτ229 (show gV τ222 22 0 16 = (gV τ202 22 0 16) from gV_put eτ222 rfl))
          have q245 : (gV τ229 22 0 16).toInt = (gV τ202 22 0 16).toInt := congrArg Int32.toInt a244
          have a246 : gV τ229 23 0 188 = x227 := (show gV τ229 23 0 188 = x227 from gV_put eτ229 (gV_self _ _ _ _ _))
          have q247 : (gV τ229 23 0 188).toInt = x227.toInt := congrArg Int32.toInt a246
          refine m_callV (n := 0) (ci := 11) (st := []) C (c_X12_takeSignE l G τ229 T N (tE T N (tE T N (tE T N i)))  i230 v233 (fun h => absurd h (by omega)) (by omega)) (by decide) (by decide) rfl rfl rfl q5_15 q5_12 q5_14 q0_32 q1_7 (by decide +kernel) rfl (by decide) (by decide) rfl (Nat.le_of_ble_eq_true rfl) dX12_takeStone_83 ?_
          rintro _ τ248 ⟨rfl, i249, f250, h254⟩
          have g253 : Fr MS_X12_takeStoneE AS_X12_takeStoneE σ τ248 := Fr.call (f231) f250 (by decide)
          have v255 : Pb τ248 := v232.call (fun k => f250.1 23 0 k (by simp) (by decide))
          have v256 : TpM τ248 T N := v233.fr f250 (by decide) (by decide) (by simp) (by decide)
          have u257 : IV (gV τ248 22 0 11) 0 400 := i249.1 22 0 11
          have a258 : gV τ248 22 0 6 = (gV σ 22 0 6) := (show gV τ248 22 0 6 = (gV σ 22 0 6) from (f250.1 22 0 (6) (by decide) (by decide)).trans a234)
          have q259 : (gV τ248 22 0 6).toInt = (gV σ 22 0 6).toInt := congrArg Int32.toInt a258
          have a260 : gV τ248 23 0 150 = (gV σ 23 0 150) := (show gV τ248 23 0 150 = (gV σ 23 0 150) from (f250.1 23 0 (150) (by decide) (by decide)).trans a236)
          have q261 : (gV τ248 23 0 150).toInt = (gV σ 23 0 150).toInt := congrArg Int32.toInt a260
          have a262 : gV τ248 23 0 152 = (gV σ 23 0 152) := (show gV τ248 23 0 152 = (gV σ 23 0 152) from (f250.1 23 0 (152) (by decide) (by decide)).trans a238)
          have q263 : (gV τ248 23 0 152).toInt = (gV σ 23 0 152).toInt := congrArg Int32.toInt a262
          have a264 : gV τ248 23 0 188 = x227 := (show gV τ248 23 0 188 = x227 from (f250.1 23 0 (188) (by decide) (by decide)).trans a246)
          have q265 : (gV τ248 23 0 188).toInt = x227.toInt := congrArg Int32.toInt a264
          rcases h254 with ⟨h254_0, h254_1, h254_2, h254_3⟩ | ⟨h254_0, h254_1, h254_2, h254_3, h254_4⟩ | ⟨h254_0, h254_1, h254_2, h254_3, h254_4, h254_5⟩
          · skip
            show MW p l e _ s m args below meth c _ 2 G 0 0 86 [some (.ref (G.1 22 0)), some (.int (gV σ 23 0 188))] [] τ248
            exact m_vret C hr hlk (by decide) (by decide) dX12_takeStone_86 ⟨rfl, i249, g253, (by have qd := sto_3 T N cc i (by omega) (by omega) (by omega) (by omega); exact Or.inl ⟨by omega, by omega, by omega, by omega, by omega, by omega, v255⟩)⟩
          · skip
            exfalso; omega
          · skip
            exfalso; omega
        · skip
          have b266 : IV x205 (-1) (-1) := ⟨by omega, by omega⟩
          have b267 : IV (gV τ202 22 0 16) 2 2 := ⟨by omega, by omega⟩
          show MW p l e _ s m args below meth c _ 2 G 0 0 65 [some (.ref (G.1 22 0)), some (.int (gV σ 23 0 188))] [.int x205, .int x180, .ref (G.1 23 0)] τ202
          refine m_goto (tgt := 69) C dX12_takeStone_65 (by decide) ?_
          refine as_23 C b181 (by decide) rfl dX12_takeStone_69 ?_
          refine m_tops (fun τ268 eτ268 => ?_)
          have i269 : Inv τ268 := eτ268 ▸ Inv.putRo i203 (by omega)
          have f270 : Fr MS_X12_takeStoneE AS_X12_takeStoneE σ τ268 := eτ268 ▸ Fr.put (g207) (Or.inr (by decide))
          have v271 : Pb τ268 := v209.put eτ268 (Or.inr (by omega))
          have v272 : TpM τ268 T N := v210.put eτ268 (Or.inl (by decide)) (by decide)
          refine m_aload_n C dX12_takeStone_70 rfl rfl ?_
          refine g_22_0 C q4_116 dX12_takeStone_71 ?_
          refine m_sipush (v := 188) C dX12_takeStone_74 (by decide) ?_
          refine m_dup2 C dX12_takeStone_77 rfl rfl ?_
          refine al_23 C kc_188 (by decide) kn_188 dX12_takeStone_78 ?_
          refine m_eqs (w := (gV σ 23 0 188)) (show gV τ268 23 0 188 = (gV σ 23 0 188) from (gV_putn eτ268 (Or.inr (Or.inr (nat_ne b181 (by decide))))).trans a218) ?_
          refine m_iconst (v := 1) C dX12_takeStone_79 (by decide) ?_
          refine m_iadd C dX12_takeStone_80 ?_
          refine m_topi (fun x273 ex273 => ?_)
          have tx273 : x273.toInt = (gV σ 23 0 188).toInt + 1 := by rw [ex273, ti_addv b10 kc_1 (by decide), kt_1]
          have b274 : IV x273 1 4 := by rw [ex273]; exact iv_add b10 kc_1 (by decide)
          refine as_23 C kc_188 (by decide) kn_188 dX12_takeStone_81 ?_
          refine m_tops (fun τ275 eτ275 => ?_)
          have i276 : Inv τ275 := eτ275 ▸ Inv.putR i269 (by decide) (iv_wk b274 (by decide))
          have f277 : Fr MS_X12_takeStoneE AS_X12_takeStoneE σ τ275 := eτ275 ▸ Fr.put (f270) (Or.inr (by decide))
          have v278 : Pb τ275 := v271.put eτ275 (Or.inr (by omega))
          have v279 : TpM τ275 T N := v272.put eτ275 (Or.inl (by decide)) (by decide)
          refine m_aload_n C dX12_takeStone_82 rfl rfl ?_
          have a280 : gV τ275 22 0 6 = (gV σ 22 0 6) := (show gV τ275 22 0 6 = (gV σ 22 0 6) from gV_put eτ275 (show gV τ268 22 0 6 = (gV σ 22 0 6) from gV_put eτ268 a212))
          have q281 : (gV τ275 22 0 6).toInt = (gV σ 22 0 6).toInt := congrArg Int32.toInt a280
          have a282 : gV τ275 23 0 150 = (gV σ 23 0 150) := (show gV τ275 23 0 150 = (gV σ 23 0 150) from gV_put eτ275 (show gV τ268 23 0 150 = (gV σ 23 0 150) from (gV_putn eτ268 (Or.inr (Or.inr (nat_ne b181 (by decide))))).trans a214))
          have q283 : (gV τ275 23 0 150).toInt = (gV σ 23 0 150).toInt := congrArg Int32.toInt a282
          have a284 : gV τ275 23 0 152 = (gV σ 23 0 152) := (show gV τ275 23 0 152 = (gV σ 23 0 152) from gV_put eτ275 (show gV τ268 23 0 152 = (gV σ 23 0 152) from (gV_putn eτ268 (Or.inr (Or.inr (nat_ne b181 (by decide))))).trans a216))
          have q285 : (gV τ275 23 0 152).toInt = (gV σ 23 0 152).toInt := congrArg Int32.toInt a284
          have a286 : gV τ275 22 0 11 = (gV τ202 22 0 11) := (show gV τ275 22 0 11 = (gV τ202 22 0 11) from gV_put eτ275 (show gV τ268 22 0 11 = (gV τ202 22 0 11) from gV_put eτ268 rfl))
          have q287 : (gV τ275 22 0 11).toInt = (gV τ202 22 0 11).toInt := congrArg Int32.toInt a286
          have a288 : gV τ275 22 0 12 = (gV τ202 22 0 12) := (show gV τ275 22 0 12 = (gV τ202 22 0 12) from gV_put eτ275 (show gV τ268 22 0 12 = (gV τ202 22 0 12) from gV_put eτ268 rfl))
          have q289 : (gV τ275 22 0 12).toInt = (gV τ202 22 0 12).toInt := congrArg Int32.toInt a288
          have a290 : gV τ275 22 0 16 = (gV τ202 22 0 16) := (show gV τ275 22 0 16 = (gV τ202 22 0 16) from gV_put eτ275 (show gV τ268 22 0 16 = (gV τ202 22 0 16) from gV_put eτ268 rfl))
          have q291 : (gV τ275 22 0 16).toInt = (gV τ202 22 0 16).toInt := congrArg Int32.toInt a290
          have a292 : gV τ275 23 0 188 = x273 := (show gV τ275 23 0 188 = x273 from gV_put eτ275 (gV_self _ _ _ _ _))
          have q293 : (gV τ275 23 0 188).toInt = x273.toInt := congrArg Int32.toInt a292
          refine m_callV (n := 0) (ci := 11) (st := []) C (c_X12_takeSignE l G τ275 T N (tE T N (tE T N (tE T N i)))  i276 v279 (fun h => absurd h (by omega)) (by omega)) (by decide) (by decide) rfl rfl rfl q5_15 q5_12 q5_14 q0_32 q1_7 (by decide +kernel) rfl (by decide) (by decide) rfl (Nat.le_of_ble_eq_true rfl) dX12_takeStone_83 ?_
          rintro _ τ294 ⟨rfl, i295, f296, h300⟩
          have g299 : Fr MS_X12_takeStoneE AS_X12_takeStoneE σ τ294 := Fr.call (f277) f296 (by decide)
          have v301 : Pb τ294 := v278.call (fun k => f296.1 23 0 k (by simp) (by decide))
          have v302 : TpM τ294 T N := v279.fr f296 (by decide) (by decide) (by simp) (by decide)
          have u303 : IV (gV τ294 22 0 11) 0 400 := i295.1 22 0 11
          have a304 : gV τ294 22 0 6 = (gV σ 22 0 6) := (show gV τ294 22 0 6 = (gV σ 22 0 6) from (f296.1 22 0 (6) (by decide) (by decide)).trans a280)
          have q305 : (gV τ294 22 0 6).toInt = (gV σ 22 0 6).toInt := congrArg Int32.toInt a304
          have a306 : gV τ294 23 0 150 = (gV σ 23 0 150) := (show gV τ294 23 0 150 = (gV σ 23 0 150) from (f296.1 23 0 (150) (by decide) (by decide)).trans a282)
          have q307 : (gV τ294 23 0 150).toInt = (gV σ 23 0 150).toInt := congrArg Int32.toInt a306
          have a308 : gV τ294 23 0 152 = (gV σ 23 0 152) := (show gV τ294 23 0 152 = (gV σ 23 0 152) from (f296.1 23 0 (152) (by decide) (by decide)).trans a284)
          have q309 : (gV τ294 23 0 152).toInt = (gV σ 23 0 152).toInt := congrArg Int32.toInt a308
          have a310 : gV τ294 23 0 188 = x273 := (show gV τ294 23 0 188 = x273 from (f296.1 23 0 (188) (by decide) (by decide)).trans a292)
          have q311 : (gV τ294 23 0 188).toInt = x273.toInt := congrArg Int32.toInt a310
          rcases h300 with ⟨h300_0, h300_1, h300_2, h300_3⟩ | ⟨h300_0, h300_1, h300_2, h300_3, h300_4⟩ | ⟨h300_0, h300_1, h300_2, h300_3, h300_4, h300_5⟩
          · skip
            show MW p l e _ s m args below meth c _ 2 G 0 0 86 [some (.ref (G.1 22 0)), some (.int (gV σ 23 0 188))] [] τ294
            exact m_vret C hr hlk (by decide) (by decide) dX12_takeStone_86 ⟨rfl, i295, g299, (by have qd := sto_4 T N cc i (by omega) (by omega) (by omega) (by omega) (by omega); exact Or.inl ⟨by omega, by omega, by omega, by omega, by omega, by omega, v301⟩)⟩
          · skip
            exfalso; omega
          · skip
            exfalso; omega
        · skip
          have q312 : 0 ≤ tV T (tE T N (tE T N i)) ∧ tV T (tE T N (tE T N i)) ≤ 3 := by omega
          clear h208_1
          have v313 : CuM T N (tE T N (tE T N (tE T N i))) τ202 := ⟨h208_4, h208_5⟩
          clear h208_4
          have b314 : IV (gV τ202 22 0 16) 0 0 := ⟨by omega, by omega⟩
          show MW p l e _ s m args below meth c _ 2 G 0 0 65 [some (.ref (G.1 22 0)), some (.int (gV σ 23 0 188))] [.int x205, .int x180, .ref (G.1 23 0)] τ202
          refine m_goto (tgt := 69) C dX12_takeStone_65 (by decide) ?_
          refine as_23 C b181 (by decide) rfl dX12_takeStone_69 ?_
          refine m_tops (fun τ315 eτ315 => ?_)
          have i316 : Inv τ315 := eτ315 ▸ Inv.putRo i203 (by omega)
          have f317 : Fr MS_X12_takeStoneE AS_X12_takeStoneE σ τ315 := eτ315 ▸ Fr.put (g207) (Or.inr (by decide))
          have v318 : Pb τ315 := v209.put eτ315 (Or.inr (by omega))
          have v319 : TpM τ315 T N := v210.put eτ315 (Or.inl (by decide)) (by decide)
          have v320 : LW T N (tE T N (tE T N (tE T N i))) τ315.2.2.1 := by rw [eτ315]; exact h208_6
          have v321 : CuM T N (tE T N (tE T N (tE T N i))) τ315 := CuM.put v313 eτ315 (Or.inl (by decide))
          refine m_aload_n C dX12_takeStone_70 rfl rfl ?_
          refine g_22_0 C q4_116 dX12_takeStone_71 ?_
          refine m_sipush (v := 188) C dX12_takeStone_74 (by decide) ?_
          refine m_dup2 C dX12_takeStone_77 rfl rfl ?_
          refine al_23 C kc_188 (by decide) kn_188 dX12_takeStone_78 ?_
          refine m_eqs (w := (gV σ 23 0 188)) (show gV τ315 23 0 188 = (gV σ 23 0 188) from (gV_putn eτ315 (Or.inr (Or.inr (nat_ne b181 (by decide))))).trans a218) ?_
          refine m_iconst (v := 1) C dX12_takeStone_79 (by decide) ?_
          refine m_iadd C dX12_takeStone_80 ?_
          refine m_topi (fun x322 ex322 => ?_)
          have tx322 : x322.toInt = (gV σ 23 0 188).toInt + 1 := by rw [ex322, ti_addv b10 kc_1 (by decide), kt_1]
          have b323 : IV x322 1 4 := by rw [ex322]; exact iv_add b10 kc_1 (by decide)
          refine as_23 C kc_188 (by decide) kn_188 dX12_takeStone_81 ?_
          refine m_tops (fun τ324 eτ324 => ?_)
          have i325 : Inv τ324 := eτ324 ▸ Inv.putR i316 (by decide) (iv_wk b323 (by decide))
          have f326 : Fr MS_X12_takeStoneE AS_X12_takeStoneE σ τ324 := eτ324 ▸ Fr.put (f317) (Or.inr (by decide))
          have v327 : Pb τ324 := v318.put eτ324 (Or.inr (by omega))
          have v328 : TpM τ324 T N := v319.put eτ324 (Or.inl (by decide)) (by decide)
          have v329 : LW T N (tE T N (tE T N (tE T N i))) τ324.2.2.1 := by rw [eτ324]; exact v320
          have v330 : CuM T N (tE T N (tE T N (tE T N i))) τ324 := CuM.put v321 eτ324 (Or.inl (by decide))
          refine m_aload_n C dX12_takeStone_82 rfl rfl ?_
          have a331 : gV τ324 22 0 6 = (gV σ 22 0 6) := (show gV τ324 22 0 6 = (gV σ 22 0 6) from gV_put eτ324 (show gV τ315 22 0 6 = (gV σ 22 0 6) from gV_put eτ315 a212))
          have q332 : (gV τ324 22 0 6).toInt = (gV σ 22 0 6).toInt := congrArg Int32.toInt a331
          have a333 : gV τ324 23 0 150 = (gV σ 23 0 150) := (show gV τ324 23 0 150 = (gV σ 23 0 150) from gV_put eτ324 (show gV τ315 23 0 150 = (gV σ 23 0 150) from (gV_putn eτ315 (Or.inr (Or.inr (nat_ne b181 (by decide))))).trans a214))
          have q334 : (gV τ324 23 0 150).toInt = (gV σ 23 0 150).toInt := congrArg Int32.toInt a333
          have a335 : gV τ324 23 0 152 = (gV σ 23 0 152) := (show gV τ324 23 0 152 = (gV σ 23 0 152) from gV_put eτ324 (show gV τ315 23 0 152 = (gV σ 23 0 152) from (gV_putn eτ315 (Or.inr (Or.inr (nat_ne b181 (by decide))))).trans a216))
          have q336 : (gV τ324 23 0 152).toInt = (gV σ 23 0 152).toInt := congrArg Int32.toInt a335
          have a337 : gV τ324 22 0 11 = (gV τ202 22 0 11) := (show gV τ324 22 0 11 = (gV τ202 22 0 11) from gV_put eτ324 (show gV τ315 22 0 11 = (gV τ202 22 0 11) from gV_put eτ315 rfl))
          have q338 : (gV τ324 22 0 11).toInt = (gV τ202 22 0 11).toInt := congrArg Int32.toInt a337
          have a339 : gV τ324 22 0 12 = (gV τ202 22 0 12) := (show gV τ324 22 0 12 = (gV τ202 22 0 12) from gV_put eτ324 (show gV τ315 22 0 12 = (gV τ202 22 0 12) from gV_put eτ315 rfl))
          have q340 : (gV τ324 22 0 12).toInt = (gV τ202 22 0 12).toInt := congrArg Int32.toInt a339
          have a341 : gV τ324 22 0 16 = (gV τ202 22 0 16) := (show gV τ324 22 0 16 = (gV τ202 22 0 16) from gV_put eτ324 (show gV τ315 22 0 16 = (gV τ202 22 0 16) from gV_put eτ315 rfl))
          have q342 : (gV τ324 22 0 16).toInt = (gV τ202 22 0 16).toInt := congrArg Int32.toInt a341
          have a343 : gV τ324 23 0 188 = x322 := (show gV τ324 23 0 188 = x322 from gV_put eτ324 (gV_self _ _ _ _ _))
          have q344 : (gV τ324 23 0 188).toInt = x322.toInt := congrArg Int32.toInt a343
          refine m_callV (n := 0) (ci := 11) (st := []) C (c_X12_takeSignE l G τ324 T N (tE T N (tE T N (tE T N i)))  i325 v328 (fun _ => v330.1) (by omega)) (by decide) (by decide) rfl rfl rfl q5_15 q5_12 q5_14 q0_32 q1_7 (by decide +kernel) rfl (by decide) (by decide) rfl (Nat.le_of_ble_eq_true rfl) dX12_takeStone_83 ?_
          rintro _ τ345 ⟨rfl, i346, f347, h351⟩
          have g350 : Fr MS_X12_takeStoneE AS_X12_takeStoneE σ τ345 := Fr.call (f326) f347 (by decide)
          have v352 : Pb τ345 := v327.call (fun k => f347.1 23 0 k (by simp) (by decide))
          have v353 : TpM τ345 T N := v328.fr f347 (by decide) (by decide) (by simp) (by decide)
          have u354 : IV (gV τ345 22 0 11) 0 400 := i346.1 22 0 11
          have a355 : gV τ345 22 0 6 = (gV σ 22 0 6) := (show gV τ345 22 0 6 = (gV σ 22 0 6) from (f347.1 22 0 (6) (by decide) (by decide)).trans a331)
          have q356 : (gV τ345 22 0 6).toInt = (gV σ 22 0 6).toInt := congrArg Int32.toInt a355
          have a357 : gV τ345 23 0 150 = (gV σ 23 0 150) := (show gV τ345 23 0 150 = (gV σ 23 0 150) from (f347.1 23 0 (150) (by decide) (by decide)).trans a333)
          have q358 : (gV τ345 23 0 150).toInt = (gV σ 23 0 150).toInt := congrArg Int32.toInt a357
          have a359 : gV τ345 23 0 152 = (gV σ 23 0 152) := (show gV τ345 23 0 152 = (gV σ 23 0 152) from (f347.1 23 0 (152) (by decide) (by decide)).trans a335)
          have q360 : (gV τ345 23 0 152).toInt = (gV σ 23 0 152).toInt := congrArg Int32.toInt a359
          have a361 : gV τ345 23 0 188 = x322 := (show gV τ345 23 0 188 = x322 from (f347.1 23 0 (188) (by decide) (by decide)).trans a343)
          have q362 : (gV τ345 23 0 188).toInt = x322.toInt := congrArg Int32.toInt a361
          rcases h351 with ⟨h351_0, h351_1, h351_2, h351_3⟩ | ⟨h351_0, h351_1, h351_2, h351_3, h351_4⟩ | ⟨h351_0, h351_1, h351_2, h351_3, h351_4, h351_5⟩
          · skip
            exfalso; omega
          · skip
            have b363 : IV (gV τ345 22 0 16) 1 1 := ⟨by omega, by omega⟩
            show MW p l e _ s m args below meth c _ 2 G 0 0 86 [some (.ref (G.1 22 0)), some (.int (gV σ 23 0 188))] [] τ345
            exact m_vret C hr hlk (by decide) (by decide) dX12_takeStone_86 ⟨rfl, i346, g350, (by have qd := sto_5 T N cc i (by omega) (by omega) (by omega) (by omega) (by omega) (by omega); exact Or.inl ⟨by omega, by omega, by omega, by omega, by omega, by omega, v352⟩)⟩
          · skip
            have b364 : IV (gV τ345 22 0 16) 0 0 := ⟨by omega, by omega⟩
            have v365 : CuM T N (tE T N (tE T N (tE T N (tE T N i)))) τ345 := ⟨h351_3, h351_4⟩
            clear h351_3
            show MW p l e _ s m args below meth c _ 2 G 0 0 86 [some (.ref (G.1 22 0)), some (.int (gV σ 23 0 188))] [] τ345
            exact m_vret C hr hlk (by decide) (by decide) dX12_takeStone_86 ⟨rfl, i346, g350, (by have qd := sto_ok T N cc i (by omega) (by omega) (by omega) (by omega) (by omega) (by omega); exact Or.inr ⟨by omega, by omega, by omega, v365.1, by omega, by omega, v352, h351_5⟩)⟩
  · have f366 : (gV σ 23 0 188).toInt = 4 := by
      have q : _ := c8
      simp only [ti_nle, ti_nlt, ti_le, ti_lt, ti_eq, ti_ne, Classical.not_not, kt_4] at q
      omega
    have b367 : IV (gV σ 23 0 188) 4 4 := ⟨by have q1 := u4; have q2 := kc_4; omega, by have q1 := u4; have q2 := kc_4; omega⟩
    have q368 : (gV σ 22 0 12).toInt = (tS T i : Int) ∧ (gV σ 22 0 12).toInt ≤ 400 := ⟨hcur.1.1, hcur.1.2.2.2.2.2.2⟩
    refine m_aload_n C dX12_takeStone_14 rfl rfl ?_
    refine m_iconst (v := 3) C dX12_takeStone_15 (by decide) ?_
    refine p_22_16 C q4_132 dX12_takeStone_16 ?_
    refine m_tops (fun τ369 eτ369 => ?_)
    have i370 : Inv τ369 := eτ369 ▸ Inv.putF hI (by decide) rfl
    have f371 : Fr MS_X12_takeStoneE AS_X12_takeStoneE σ τ369 := eτ369 ▸ Fr.put (Fr.rf) (Or.inl (by decide))
    have v372 : Pb τ369 := hPb.put eτ369 (Or.inl (by decide))
    have v373 : TpM τ369 T N := hT.put eτ369 (Or.inr (by decide)) (by decide)
    have v374 : τ369.2.2.1 = σ.2.2.1 := by rw [eτ369]; rfl
    have v375 : CuM T N i τ369 := CuM.put hcur eτ369 (Or.inr (by decide))
    have a376 : gV τ369 22 0 11 = (gV σ 22 0 11) := (show gV τ369 22 0 11 = (gV σ 22 0 11) from gV_put eτ369 rfl)
    have q377 : (gV τ369 22 0 11).toInt = (gV σ 22 0 11).toInt := congrArg Int32.toInt a376
    have a378 : gV τ369 22 0 12 = (gV σ 22 0 12) := (show gV τ369 22 0 12 = (gV σ 22 0 12) from gV_put eτ369 rfl)
    have q379 : (gV τ369 22 0 12).toInt = (gV σ 22 0 12).toInt := congrArg Int32.toInt a378
    have a380 : gV τ369 22 0 6 = (gV σ 22 0 6) := (show gV τ369 22 0 6 = (gV σ 22 0 6) from gV_put eτ369 rfl)
    have q381 : (gV τ369 22 0 6).toInt = (gV σ 22 0 6).toInt := congrArg Int32.toInt a380
    have a382 : gV τ369 23 0 150 = (gV σ 23 0 150) := (show gV τ369 23 0 150 = (gV σ 23 0 150) from gV_put eτ369 rfl)
    have q383 : (gV τ369 23 0 150).toInt = (gV σ 23 0 150).toInt := congrArg Int32.toInt a382
    have a384 : gV τ369 23 0 152 = (gV σ 23 0 152) := (show gV τ369 23 0 152 = (gV σ 23 0 152) from gV_put eτ369 rfl)
    have q385 : (gV τ369 23 0 152).toInt = (gV σ 23 0 152).toInt := congrArg Int32.toInt a384
    have a386 : gV τ369 23 0 188 = (gV σ 23 0 188) := (show gV τ369 23 0 188 = (gV σ 23 0 188) from gV_put eτ369 rfl)
    have q387 : (gV τ369 23 0 188).toInt = (gV σ 23 0 188).toInt := congrArg Int32.toInt a386
    have a388 : gV τ369 22 0 16 = 3 := (show gV τ369 22 0 16 = 3 from gV_put eτ369 (gV_self _ _ _ _ _))
    have q389 : (gV τ369 22 0 16).toInt = 3 := (congrArg Int32.toInt a388).trans kt_3
    exact m_vret C hr hlk (by decide) (by decide) dX12_takeStone_19 ⟨rfl, i370, f371, (by have qd := sto_0 T N cc i (by omega); exact Or.inl ⟨by omega, by omega, by omega, by omega, by omega, by omega, v372⟩)⟩

abbrev MS_X12_towerT : List (Nat × Nat) := [(22, 6), (22, 7), (22, 9), (22, 11), (22, 12), (22, 13), (22, 15), (22, 16)]
abbrev AS_X12_towerT : List Nat := [23]
set_option maxHeartbeats 4000000 in
set_option maxRecDepth 100000 in
theorem c_X12_towerT (l : Launch) (G : Gt) (σ : Sg) (T : Nat → Int) (N : Nat) (hI : Inv σ) (hT : TpM σ T N) : Mc l G yX12_tower cX12_tower 2 (some .int) 4 92 0 0 [.ref (G.1 22 0)] σ (PI fun r τ => Inv τ ∧ Fr MS_X12_towerT AS_X12_towerT σ τ ∧ IV r (-1000500) 7 ∧ ((r.toInt = -1000100 - outP T N ∧ outF T N ≠ 0 ∧ (gV τ 22 0 7).toInt = outF T N ∧ (gV τ 22 0 6).toInt = 0) ∨ (r.toInt = outN T N ∧ outF T N = 0 ∧ (gV τ 22 0 7).toInt = (gV σ 22 0 7).toInt ∧ (gV τ 22 0 6).toInt = 0))) := by
  refine Mc.of (L0 := [some (.ref (G.1 22 0)), none]) (by decide) (Nat.le_of_ble_eq_true rfl) rfl ?_
  intro p e s m args below meth c C hr hlk
  have C : Cx p s m args c cX12_tower 2 "LeanTowerModel" := C
  have k0 : (0 : Int32).toInt = 0 := by decide
  have k1 : (1 : Int32).toInt = 1 := by decide
  have J75 : ∀ (n : Nat) (τ : Sg) (q75 : Nat), Inv τ → Fr MS_X12_towerT AS_X12_towerT σ τ → (TpM τ T N) → ((((gV τ 22 0 16).toInt = 0 ∧ CuM T N q75 τ ∧ (gV τ 22 0 11).toInt ≤ (gV τ 22 0 6).toInt ∧ Pb τ ∧ LW T N q75 τ.2.2.1 ∧ SI_ T N (gV τ 23 0 152).toInt.toNat (gV τ 23 0 188).toInt.toNat q75) ∨ ((1 ≤ (gV τ 22 0 16).toInt ∧ (gV τ 22 0 16).toInt ≤ 3) ∧ outF T N = (gV τ 22 0 16).toInt ∧ ((gV τ 22 0 12).toInt = outP T N ∧ 0 ≤ outP T N ∧ (gV τ 22 0 12).toInt ≤ 400) ∧ (gV τ 22 0 11).toInt ≤ (gV τ 22 0 6).toInt ∧ 0 ≤ (gV τ 23 0 152).toInt ∧ (gV τ 23 0 152).toInt ≤ 7 ∧ 0 ≤ (gV τ 23 0 188).toInt ∧ (gV τ 23 0 188).toInt ≤ 4))) → ((gV τ 22 0 7).toInt = (gV σ 22 0 7).toInt) → (2 * (5 - (gV τ 23 0 188).toInt) + 1 - min 1 (max (gV τ 22 0 16).toInt (-(gV τ 22 0 16).toInt))).toNat < n → MW p l e { frames := 4, cells := 0, slots := 0, locals := 92 } s m args below meth c (MQ below (QP G (PI fun r τ => Inv τ ∧ Fr MS_X12_towerT AS_X12_towerT σ τ ∧ IV r (-1000500) 7 ∧ ((r.toInt = -1000100 - outP T N ∧ outF T N ≠ 0 ∧ (gV τ 22 0 7).toInt = outF T N ∧ (gV τ 22 0 6).toInt = 0) ∨ (r.toInt = outN T N ∧ outF T N = 0 ∧ (gV τ 22 0 7).toInt = (gV σ 22 0 7).toInt ∧ (gV τ 22 0 6).toInt = 0)))) args s 0 0 (aG G)) 2 G 0 0 75 [some (.ref (G.1 22 0)), none] [] τ := by
    intro n
    induction n with
    | zero => intro τ q75 iτ fτ v_T nR n1 hm; exact absurd hm (Nat.not_lt_zero _)
    | succ n ih75 =>
      intro τ q75 iτ fτ v_T nR n1 hm75
      have u2 : IV (gV τ 22 0 11) 0 400 := iτ.1 22 0 11
      have u3 : IV (gV τ 22 0 6) 0 400 := iτ.1 22 0 6
      have u4 : IV (gV τ 23 0 152) 0 7 := iτ.1 23 0 152
      have u5 : IV (gV τ 23 0 188) 0 4 := iτ.1 23 0 188
      have u6 : IV (gV τ 23 0 2) 0 7 := iτ.1 23 0 2
      have q7 : (gV τ 22 0 6).toInt = (N : Int) := v_T.1
      have q8 := v_T.2.1
      rcases nR with ⟨n0_, n1_, n2_, nb, nw, nP⟩ | ⟨n0_, n1_, n2_, n3_, n4_, n5_, n6_, n7_⟩
      · skip
        have b9 : IV (gV τ 22 0 16) 0 0 := ⟨by omega, by omega⟩
        refine m_aload_n C dX12_tower_75 rfl rfl ?_
        refine g_22_16 C q4_132 dX12_tower_76 ?_
        refine m_eqs (w := (gV τ 22 0 16)) rfl ?_
        refine m_if_ne (tgt := 107) C dX12_tower_79 (by decide) (fun c10 => ?_) (fun c10 => ?_)
        · exfalso
          have q : _ := c10
          simp only [ti_nle, ti_nlt, ti_le, ti_lt, ti_eq, ti_ne, Classical.not_not, kt_0] at q
          have q1 := b9; have q2 := kc_0; omega
        · have f12 : (gV τ 22 0 16).toInt = 0 := by
            have q : _ := c10
            simp only [ti_nle, ti_nlt, ti_le, ti_lt, ti_eq, ti_ne, Classical.not_not, kt_0] at q
            omega
          refine m_aload_n C dX12_tower_82 rfl rfl ?_
          refine g_22_13 C q4_129 dX12_tower_83 ?_
          refine m_topi (fun x13 ex13 => ?_)
          have q14 : (x13.toInt = 0 ↔ tK T N q75 = 1) := by have qc := n1_.1; rw [ex13]; omega
          have q15 : (x13.toInt = 4 ↔ tK T N q75 = 0) := by have qc := n1_.1; rw [ex13]; omega
          refine m_if_ne (tgt := 107) C dX12_tower_86 (by decide) (fun c16 => ?_) (fun c16 => ?_)
          · have f17 : x13.toInt ≠ 0 := by
              have q : _ := c16
              simp only [ti_nle, ti_nlt, ti_le, ti_lt, ti_eq, ti_ne, Classical.not_not, kt_0] at q
              omega
            have q18 := nP.no (by omega)
            have q19 : (gV τ 22 0 12).toInt = (tS T q75 : Int) ∧ (gV τ 22 0 12).toInt ≤ 400 := ⟨n1_.1.1, n1_.1.2.2.2.2.2.2⟩
            refine m_aload_n C dX12_tower_107 rfl rfl ?_
            refine m_aload_n C dX12_tower_108 rfl rfl ?_
            refine g_22_16 C q4_132 dX12_tower_109 ?_
            refine m_eqs (w := (gV τ 22 0 16)) rfl ?_
            refine m_if_ne (tgt := 127) C dX12_tower_112 (by decide) (fun c20 => ?_) (fun c20 => ?_)
            · exfalso
              have q : _ := c20
              simp only [ti_nle, ti_nlt, ti_le, ti_lt, ti_eq, ti_ne, Classical.not_not, kt_0] at q
              have q1 := b9; have q2 := kc_0; omega
            · have f22 : (gV τ 22 0 16).toInt = 0 := by
                have q : _ := c20
                simp only [ti_nle, ti_nlt, ti_le, ti_lt, ti_eq, ti_ne, Classical.not_not, kt_0] at q
                omega
              refine m_aload_n C dX12_tower_115 rfl rfl ?_
              refine g_22_13 C q4_129 dX12_tower_116 ?_
              refine m_eqs (w := x13) ex13.symm ?_
              have q23 : (x13.toInt = 0 ↔ tK T N q75 = 1) := by have qc := n1_.1; rw [ex13]; omega
              have q24 : (x13.toInt = 4 ↔ tK T N q75 = 0) := by have qc := n1_.1; rw [ex13]; omega
              refine m_iconst (v := 4) C dX12_tower_119 (by decide) ?_
              refine m_icmp_eq (tgt := 127) C dX12_tower_120 (by decide) (fun c25 => ?_) (fun c25 => ?_)
              · have f26 : x13.toInt = 4 := by
                  have q : _ := c25
                  simp only [ti_nle, ti_nlt, ti_le, ti_lt, ti_eq, ti_ne, Classical.not_not, kt_4] at q
                  omega
                have b27 : IV x13 4 4 := ⟨by have q1 := (iv_any x13); have q2 := kc_4; omega, by have q1 := (iv_any x13); have q2 := kc_4; omega⟩
                refine m_aload_n C dX12_tower_127 rfl rfl ?_
                refine g_22_16 C q4_132 dX12_tower_128 ?_
                refine m_eqs (w := (gV τ 22 0 16)) rfl ?_
                refine p_22_16 C q4_132 dX12_tower_131 ?_
                refine m_tops (fun τ28 eτ28 => ?_)
                have i29 : Inv τ28 := eτ28 ▸ Inv.putF iτ (by decide) rfl
                have f30 : Fr MS_X12_towerT AS_X12_towerT σ τ28 := eτ28 ▸ Fr.put (fτ) (Or.inl (by decide))
                have v31 : TpM τ28 T N := v_T.put eτ28 (Or.inr (by decide)) (by decide)
                have v32 : τ28.2.2.1 = τ.2.2.1 := by rw [eτ28]; rfl
                have v33 : LW T N q75 τ28.2.2.1 := by rw [eτ28]; exact nw
                have v34 : CuM T N q75 τ28 := CuM.put n1_ eτ28 (Or.inr (by decide))
                have v35 : Pb τ28 := nb.put eτ28 (Or.inl (by decide))
                refine m_aload_n C dX12_tower_134 rfl rfl ?_
                refine m_iconst (v := 0) C dX12_tower_135 (by decide) ?_
                refine p_22_6 C q4_122 dX12_tower_136 ?_
                refine m_tops (fun τ36 eτ36 => ?_)
                have i37 : Inv τ36 := eτ36 ▸ Inv.put i29 (by decide) (iv_wk kc_0 (by decide))
                have f38 : Fr MS_X12_towerT AS_X12_towerT σ τ36 := eτ36 ▸ Fr.put (f30) (Or.inl (by decide))
                have v40 : τ36.2.2.1 = τ.2.2.1 := by rw [eτ36]; exact v32
                have v41 : LW T N q75 τ36.2.2.1 := by rw [eτ36]; exact v33
                have v42 : Pb τ36 := v35.put eτ36 (Or.inl (by decide))
                refine m_aload_n C dX12_tower_139 rfl rfl ?_
                refine g_22_16 C q4_132 dX12_tower_140 ?_
                refine m_eqs (w := (gV τ 22 0 16)) (show gV τ36 22 0 16 = (gV τ 22 0 16) from gV_put eτ36 (show gV τ28 22 0 16 = (gV τ 22 0 16) from gV_put eτ28 (gV_self _ _ _ _ _))) ?_
                refine m_if_eq (tgt := 162) C dX12_tower_143 (by decide) (fun c43 => ?_) (fun c43 => ?_)
                · have f44 : (gV τ 22 0 16).toInt = 0 := by
                    have q : _ := c43
                    simp only [ti_nle, ti_nlt, ti_le, ti_lt, ti_eq, ti_ne, Classical.not_not, kt_0] at q
                    omega
                  refine m_aload_n C dX12_tower_162 rfl rfl ?_
                  refine m_sipush (v := 150) C dX12_tower_163 (by decide) ?_
                  refine m_iconst (v := 0) C dX12_tower_166 (by decide) ?_
                  have a45 : gV τ36 22 0 11 = (gV τ 22 0 11) := (show gV τ36 22 0 11 = (gV τ 22 0 11) from gV_put eτ36 (show gV τ28 22 0 11 = (gV τ 22 0 11) from gV_put eτ28 rfl))
                  have q46 : (gV τ36 22 0 11).toInt = (gV τ 22 0 11).toInt := congrArg Int32.toInt a45
                  have a47 : gV τ36 22 0 12 = (gV τ 22 0 12) := (show gV τ36 22 0 12 = (gV τ 22 0 12) from gV_put eτ36 (show gV τ28 22 0 12 = (gV τ 22 0 12) from gV_put eτ28 rfl))
                  have q48 : (gV τ36 22 0 12).toInt = (gV τ 22 0 12).toInt := congrArg Int32.toInt a47
                  have a49 : gV τ36 22 0 7 = (gV τ 22 0 7) := (show gV τ36 22 0 7 = (gV τ 22 0 7) from gV_put eτ36 (show gV τ28 22 0 7 = (gV τ 22 0 7) from gV_put eτ28 rfl))
                  have q50 : (gV τ36 22 0 7).toInt = (gV τ 22 0 7).toInt := congrArg Int32.toInt a49
                  have a51 : gV τ36 23 0 150 = (gV τ 23 0 150) := (show gV τ36 23 0 150 = (gV τ 23 0 150) from gV_put eτ36 (show gV τ28 23 0 150 = (gV τ 23 0 150) from gV_put eτ28 rfl))
                  have q52 : (gV τ36 23 0 150).toInt = (gV τ 23 0 150).toInt := congrArg Int32.toInt a51
                  have a53 : gV τ36 23 0 152 = (gV τ 23 0 152) := (show gV τ36 23 0 152 = (gV τ 23 0 152) from gV_put eτ36 (show gV τ28 23 0 152 = (gV τ 23 0 152) from gV_put eτ28 rfl))
                  have q54 : (gV τ36 23 0 152).toInt = (gV τ 23 0 152).toInt := congrArg Int32.toInt a53
                  have a55 : gV τ36 23 0 188 = (gV τ 23 0 188) := (show gV τ36 23 0 188 = (gV τ 23 0 188) from gV_put eτ36 (show gV τ28 23 0 188 = (gV τ 23 0 188) from gV_put eτ28 rfl))
                  have q56 : (gV τ36 23 0 188).toInt = (gV τ 23 0 188).toInt := congrArg Int32.toInt a55
                  have a57 : gV τ36 23 0 2 = (gV τ 23 0 2) := (show gV τ36 23 0 2 = (gV τ 23 0 2) from gV_put eτ36 (show gV τ28 23 0 2 = (gV τ 23 0 2) from gV_put eτ28 rfl))
                  have q58 : (gV τ36 23 0 2).toInt = (gV τ 23 0 2).toInt := congrArg Int32.toInt a57
                  have a59 : gV τ36 22 0 16 = (gV τ 22 0 16) := (show gV τ36 22 0 16 = (gV τ 22 0 16) from gV_put eτ36 (show gV τ28 22 0 16 = (gV τ 22 0 16) from gV_put eτ28 (gV_self _ _ _ _ _)))
                  have q60 : (gV τ36 22 0 16).toInt = (gV τ 22 0 16).toInt := congrArg Int32.toInt a59
                  have a61 : gV τ36 22 0 6 = 0 := (show gV τ36 22 0 6 = 0 from gV_put eτ36 (gV_self _ _ _ _ _))
                  have q62 : (gV τ36 22 0 6).toInt = 0 := (congrArg Int32.toInt a61).trans kt_0
                  have q63 := kt_150
                  have q64 := kt_0
                  refine m_callV (n := 2) (ci := 11) (st := []) C (c_X12_copyAll l G τ36 (150) (0) i37 (iv_wk kc_150 (by decide)) (iv_wk kc_0 (by decide)) (by omega) (by omega) (by omega) (Or.inr v42)) (by decide) (by decide) rfl rfl rfl q5_38 q5_35 q5_37 q0_35 q1_7 (by decide +kernel) rfl (by decide) (by decide) rfl (Nat.le_of_ble_eq_true rfl) dX12_tower_167 ?_
                  rintro _ τ65 ⟨rfl, i66, f67, h71⟩
                  have g70 : Fr MS_X12_towerT AS_X12_towerT σ τ65 := Fr.call (f38) f67 (by decide)
                  have u72 : IV (gV τ65 23 0 152) 0 7 := i66.1 23 0 152
                  have u73 : IV (gV τ65 23 0 188) 0 4 := i66.1 23 0 188
                  have u74 : IV (gV τ65 23 0 2) 0 7 := i66.1 23 0 2
                  have a75 : gV τ65 22 0 11 = (gV τ 22 0 11) := (show gV τ65 22 0 11 = (gV τ 22 0 11) from (f67.1 22 0 (11) (by decide) (by decide)).trans a45)
                  have q76 : (gV τ65 22 0 11).toInt = (gV τ 22 0 11).toInt := congrArg Int32.toInt a75
                  have a77 : gV τ65 22 0 12 = (gV τ 22 0 12) := (show gV τ65 22 0 12 = (gV τ 22 0 12) from (f67.1 22 0 (12) (by decide) (by decide)).trans a47)
                  have q78 : (gV τ65 22 0 12).toInt = (gV τ 22 0 12).toInt := congrArg Int32.toInt a77
                  have a79 : gV τ65 22 0 7 = (gV τ 22 0 7) := (show gV τ65 22 0 7 = (gV τ 22 0 7) from (f67.1 22 0 (7) (by decide) (by decide)).trans a49)
                  have q80 : (gV τ65 22 0 7).toInt = (gV τ 22 0 7).toInt := congrArg Int32.toInt a79
                  have a81 : gV τ65 22 0 16 = (gV τ 22 0 16) := (show gV τ65 22 0 16 = (gV τ 22 0 16) from (f67.1 22 0 (16) (by decide) (by decide)).trans a59)
                  have q82 : (gV τ65 22 0 16).toInt = (gV τ 22 0 16).toInt := congrArg Int32.toInt a81
                  have a83 : gV τ65 22 0 6 = 0 := (show gV τ65 22 0 6 = 0 from (f67.1 22 0 (6) (by decide) (by decide)).trans a61)
                  have q84 : (gV τ65 22 0 6).toInt = 0 := (congrArg Int32.toInt a83).trans kt_0
                  have q85 : (gV τ65 23 0 2).toInt = (gV τ36 23 0 152).toInt := congrArg Int32.toInt (h71.2.1 2 (by decide))
                  show MW p l e _ s m args below meth c _ 2 G 0 0 170 [some (.ref (G.1 22 0)), none] [] τ65
                  refine m_aload_n C dX12_tower_170 rfl rfl ?_
                  refine m_iconst (v := 0) C dX12_tower_171 (by decide) ?_
                  refine p_22_9 C q4_125 dX12_tower_172 ?_
                  refine m_tops (fun τ86 eτ86 => ?_)
                  have i87 : Inv τ86 := eτ86 ▸ Inv.put i66 (by decide) (iv_wk kc_0 (by decide))
                  have f88 : Fr MS_X12_towerT AS_X12_towerT σ τ86 := eτ86 ▸ Fr.put (g70) (Or.inl (by decide))
                  refine m_aload_n C dX12_tower_175 rfl rfl ?_
                  refine g_22_0 C q4_116 dX12_tower_176 ?_
                  refine m_iconst (v := 2) C dX12_tower_179 (by decide) ?_
                  refine al_23 C kc_2 (by decide) kn_2 dX12_tower_180 ?_
                  refine m_eqs (w := (gV τ65 23 0 2)) (show gV τ86 23 0 2 = (gV τ65 23 0 2) from gV_put eτ86 rfl) ?_
                  have a89 : gV τ86 22 0 11 = (gV τ 22 0 11) := (show gV τ86 22 0 11 = (gV τ 22 0 11) from gV_put eτ86 a75)
                  have q90 : (gV τ86 22 0 11).toInt = (gV τ 22 0 11).toInt := congrArg Int32.toInt a89
                  have a91 : gV τ86 22 0 12 = (gV τ 22 0 12) := (show gV τ86 22 0 12 = (gV τ 22 0 12) from gV_put eτ86 a77)
                  have q92 : (gV τ86 22 0 12).toInt = (gV τ 22 0 12).toInt := congrArg Int32.toInt a91
                  have a93 : gV τ86 22 0 7 = (gV τ 22 0 7) := (show gV τ86 22 0 7 = (gV τ 22 0 7) from gV_put eτ86 a79)
                  have q94 : (gV τ86 22 0 7).toInt = (gV τ 22 0 7).toInt := congrArg Int32.toInt a93
                  have a95 : gV τ86 22 0 16 = (gV τ 22 0 16) := (show gV τ86 22 0 16 = (gV τ 22 0 16) from gV_put eτ86 a81)
                  have q96 : (gV τ86 22 0 16).toInt = (gV τ 22 0 16).toInt := congrArg Int32.toInt a95
                  have a97 : gV τ86 22 0 6 = 0 := (show gV τ86 22 0 6 = 0 from gV_put eτ86 a83)
                  have q98 : (gV τ86 22 0 6).toInt = 0 := (congrArg Int32.toInt a97).trans kt_0
                  have a99 : gV τ86 23 0 150 = (gV τ65 23 0 150) := (show gV τ86 23 0 150 = (gV τ65 23 0 150) from gV_put eτ86 rfl)
                  have q100 : (gV τ86 23 0 150).toInt = (gV τ65 23 0 150).toInt := congrArg Int32.toInt a99
                  have a101 : gV τ86 23 0 152 = (gV τ65 23 0 152) := (show gV τ86 23 0 152 = (gV τ65 23 0 152) from gV_put eτ86 rfl)
                  have q102 : (gV τ86 23 0 152).toInt = (gV τ65 23 0 152).toInt := congrArg Int32.toInt a101
                  have a103 : gV τ86 23 0 188 = (gV τ65 23 0 188) := (show gV τ86 23 0 188 = (gV τ65 23 0 188) from gV_put eτ86 rfl)
                  have q104 : (gV τ86 23 0 188).toInt = (gV τ65 23 0 188).toInt := congrArg Int32.toInt a103
                  have a105 : gV τ86 23 0 2 = (gV τ65 23 0 2) := (show gV τ86 23 0 2 = (gV τ65 23 0 2) from gV_put eτ86 rfl)
                  have q106 : (gV τ86 23 0 2).toInt = (gV τ65 23 0 2).toInt := congrArg Int32.toInt a105
                  exact m_iret C hr hlk (by decide) (by decide) dX12_tower_181 ⟨_, rfl, i87, f88, (iv_wk u74 (by decide)), (Or.inr (⟨by omega, by omega, by omega, by omega⟩))⟩
                · exfalso
                  have q : _ := c43
                  simp only [ti_nle, ti_nlt, ti_le, ti_lt, ti_eq, ti_ne, Classical.not_not, kt_0] at q
                  have q1 := b9; have q2 := kc_0; omega
              · have f108 : x13.toInt ≠ 4 := by
                  have q : _ := c25
                  simp only [ti_nle, ti_nlt, ti_le, ti_lt, ti_eq, ti_ne, Classical.not_not, kt_4] at q
                  omega
                refine m_iconst (v := 1) C dX12_tower_123 (by decide) ?_
                refine m_goto (tgt := 131) C dX12_tower_124 (by decide) ?_
                refine p_22_16 C q4_132 dX12_tower_131 ?_
                refine m_tops (fun τ109 eτ109 => ?_)
                have i110 : Inv τ109 := eτ109 ▸ Inv.putF iτ (by decide) rfl
                have f111 : Fr MS_X12_towerT AS_X12_towerT σ τ109 := eτ109 ▸ Fr.put (fτ) (Or.inl (by decide))
                have v112 : TpM τ109 T N := v_T.put eτ109 (Or.inr (by decide)) (by decide)
                have v113 : τ109.2.2.1 = τ.2.2.1 := by rw [eτ109]; rfl
                have v114 : LW T N q75 τ109.2.2.1 := by rw [eτ109]; exact nw
                have v115 : CuM T N q75 τ109 := CuM.put n1_ eτ109 (Or.inr (by decide))
                have v116 : Pb τ109 := nb.put eτ109 (Or.inl (by decide))
                refine m_aload_n C dX12_tower_134 rfl rfl ?_
                refine m_iconst (v := 0) C dX12_tower_135 (by decide) ?_
                refine p_22_6 C q4_122 dX12_tower_136 ?_
                refine m_tops (fun τ117 eτ117 => ?_)
                have i118 : Inv τ117 := eτ117 ▸ Inv.put i110 (by decide) (iv_wk kc_0 (by decide))
                have f119 : Fr MS_X12_towerT AS_X12_towerT σ τ117 := eτ117 ▸ Fr.put (f111) (Or.inl (by decide))
                have v121 : τ117.2.2.1 = τ.2.2.1 := by rw [eτ117]; exact v113
                have v122 : LW T N q75 τ117.2.2.1 := by rw [eτ117]; exact v114
                have v123 : Pb τ117 := v116.put eτ117 (Or.inl (by decide))
                refine m_aload_n C dX12_tower_139 rfl rfl ?_
                refine g_22_16 C q4_132 dX12_tower_140 ?_
                refine m_eqs (w := 1) (show gV τ117 22 0 16 = 1 from gV_put eτ117 (show gV τ109 22 0 16 = 1 from gV_put eτ109 (gV_self _ _ _ _ _))) ?_
                refine m_if_eq (tgt := 162) C dX12_tower_143 (by decide) (fun c124 => ?_) (fun c124 => ?_)
                · first | exact absurd c124 (by decide) | exact absurd (by decide) c124
                · have f126 : 1 ≠ 0 := by
                    have q : _ := c124
                    simp only [ti_nle, ti_nlt, ti_le, ti_lt, ti_eq, ti_ne, Classical.not_not, kt_1, kt_0] at q
                    omega
                  refine m_aload_n C dX12_tower_146 rfl rfl ?_
                  refine m_aload_n C dX12_tower_147 rfl rfl ?_
                  refine g_22_16 C q4_132 dX12_tower_148 ?_
                  refine m_eqs (w := 1) (show gV τ117 22 0 16 = 1 from gV_put eτ117 (show gV τ109 22 0 16 = 1 from gV_put eτ109 (gV_self _ _ _ _ _))) ?_
                  refine p_22_7 C q4_123 dX12_tower_151 ?_
                  refine m_tops (fun τ127 eτ127 => ?_)
                  have i128 : Inv τ127 := eτ127 ▸ Inv.putF i118 (by decide) rfl
                  have f129 : Fr MS_X12_towerT AS_X12_towerT σ τ127 := eτ127 ▸ Fr.put (f119) (Or.inl (by decide))
                  have v130 : τ127.2.2.1 = τ.2.2.1 := by rw [eτ127]; exact v121
                  have v131 : LW T N q75 τ127.2.2.1 := by rw [eτ127]; exact v122
                  have v132 : Pb τ127 := v123.put eτ127 (Or.inl (by decide))
                  refine m_ldc (v := (-1000100)) C dX12_tower_154 q5_34 ?_
                  refine m_aload_n C dX12_tower_156 rfl rfl ?_
                  refine g_22_12 C q4_128 dX12_tower_157 ?_
                  refine m_eqs (w := (gV τ 22 0 12)) (show gV τ127 22 0 12 = (gV τ 22 0 12) from gV_put eτ127 (show gV τ117 22 0 12 = (gV τ 22 0 12) from gV_put eτ117 (show gV τ109 22 0 12 = (gV τ 22 0 12) from gV_put eτ109 rfl))) ?_
                  have a133 : gV τ127 22 0 11 = (gV τ 22 0 11) := (show gV τ127 22 0 11 = (gV τ 22 0 11) from gV_put eτ127 (show gV τ117 22 0 11 = (gV τ 22 0 11) from gV_put eτ117 (show gV τ109 22 0 11 = (gV τ 22 0 11) from gV_put eτ109 rfl)))
                  have q134 : (gV τ127 22 0 11).toInt = (gV τ 22 0 11).toInt := congrArg Int32.toInt a133
                  have a135 : gV τ127 22 0 12 = (gV τ 22 0 12) := (show gV τ127 22 0 12 = (gV τ 22 0 12) from gV_put eτ127 (show gV τ117 22 0 12 = (gV τ 22 0 12) from gV_put eτ117 (show gV τ109 22 0 12 = (gV τ 22 0 12) from gV_put eτ109 rfl)))
                  have q136 : (gV τ127 22 0 12).toInt = (gV τ 22 0 12).toInt := congrArg Int32.toInt a135
                  have a137 : gV τ127 23 0 150 = (gV τ 23 0 150) := (show gV τ127 23 0 150 = (gV τ 23 0 150) from gV_put eτ127 (show gV τ117 23 0 150 = (gV τ 23 0 150) from gV_put eτ117 (show gV τ109 23 0 150 = (gV τ 23 0 150) from gV_put eτ109 rfl)))
                  have q138 : (gV τ127 23 0 150).toInt = (gV τ 23 0 150).toInt := congrArg Int32.toInt a137
                  have a139 : gV τ127 23 0 152 = (gV τ 23 0 152) := (show gV τ127 23 0 152 = (gV τ 23 0 152) from gV_put eτ127 (show gV τ117 23 0 152 = (gV τ 23 0 152) from gV_put eτ117 (show gV τ109 23 0 152 = (gV τ 23 0 152) from gV_put eτ109 rfl)))
                  have q140 : (gV τ127 23 0 152).toInt = (gV τ 23 0 152).toInt := congrArg Int32.toInt a139
                  have a141 : gV τ127 23 0 188 = (gV τ 23 0 188) := (show gV τ127 23 0 188 = (gV τ 23 0 188) from gV_put eτ127 (show gV τ117 23 0 188 = (gV τ 23 0 188) from gV_put eτ117 (show gV τ109 23 0 188 = (gV τ 23 0 188) from gV_put eτ109 rfl)))
                  have q142 : (gV τ127 23 0 188).toInt = (gV τ 23 0 188).toInt := congrArg Int32.toInt a141
                  have a143 : gV τ127 23 0 2 = (gV τ 23 0 2) := (show gV τ127 23 0 2 = (gV τ 23 0 2) from gV_put eτ127 (show gV τ117 23 0 2 = (gV τ 23 0 2) from gV_put eτ117 (show gV τ109 23 0 2 = (gV τ 23 0 2) from gV_put eτ109 rfl)))
                  have q144 : (gV τ127 23 0 2).toInt = (gV τ 23 0 2).toInt := congrArg Int32.toInt a143
                  have a145 : gV τ127 22 0 16 = 1 := (show gV τ127 22 0 16 = 1 from gV_put eτ127 (show gV τ117 22 0 16 = 1 from gV_put eτ117 (show gV τ109 22 0 16 = 1 from gV_put eτ109 (gV_self _ _ _ _ _))))
                  have q146 : (gV τ127 22 0 16).toInt = 1 := (congrArg Int32.toInt a145).trans kt_1
                  have a147 : gV τ127 22 0 6 = 0 := (show gV τ127 22 0 6 = 0 from gV_put eτ127 (show gV τ117 22 0 6 = 0 from gV_put eτ117 (gV_self _ _ _ _ _)))
                  have q148 : (gV τ127 22 0 6).toInt = 0 := (congrArg Int32.toInt a147).trans kt_0
                  have a149 : gV τ127 22 0 7 = 1 := (show gV τ127 22 0 7 = 1 from gV_put eτ127 (gV_self _ _ _ _ _))
                  have q150 : (gV τ127 22 0 7).toInt = 1 := (congrArg Int32.toInt a149).trans kt_1
                  have b151 : IV (gV τ 22 0 12) 0 400 := ⟨by have q1 := (iv_any (gV τ 22 0 12)); omega, by have q1 := (iv_any (gV τ 22 0 12)); omega⟩
                  refine m_isub C dX12_tower_160 ?_
                  refine m_topi (fun x152 ex152 => ?_)
                  have tx152 : x152.toInt = -1000100 - (gV τ 22 0 12).toInt := by rw [ex152, ti_subv kc_m1000100 b151 (by decide), kt_m1000100]
                  have b153 : IV x152 (-1000500) (-1000100) := by rw [ex152]; exact iv_sub kc_m1000100 b151 (by decide)
                  exact m_iret C hr hlk (by decide) (by decide) dX12_tower_161 ⟨_, rfl, i128, f129, (iv_wk b153 (by decide)), (Or.inl ⟨by omega, by omega, by omega, by omega⟩)⟩
          · have f154 : x13.toInt = 0 := by
              have q : _ := c16
              simp only [ti_nle, ti_nlt, ti_le, ti_lt, ti_eq, ti_ne, Classical.not_not, kt_0] at q
              omega
            have b155 : IV x13 0 0 := ⟨by have q1 := (iv_any x13); have q2 := kc_0; omega, by have q1 := (iv_any x13); have q2 := kc_0; omega⟩
            refine m_aload_n C dX12_tower_89 rfl rfl ?_
            refine g_22_14 C q4_130 dX12_tower_90 ?_
            refine m_topl (fun w156 ew156 => ?_)
            have q157 : tK T N q75 = 1 := by omega
            have q158 : (w156.toInt = 20594117 ↔ tW T N q75 7 = 1) := by rw [ew156]; exact LW.at7 nw q157
            refine m_ldc2 (v := 20594117) C dX12_tower_93 q5_29 ?_
            refine m_lcmp C dX12_tower_96 ?_
            refine m_topi (fun x159 ex159 => ?_)
            have b160 : IV x159 (-1) 1 := by rw [ex159]; rcases lgc w156 20594117 with q | q | q <;> omega
            have f161 := lgc w156 20594117
            rw [← ex159] at f161
            have f163 := kl_20594117
            refine m_if_ne (tgt := 107) C dX12_tower_97 (by decide) (fun c164 => ?_) (fun c164 => ?_)
            · have f165 : x159.toInt ≠ 0 := by
                have q : _ := c164
                simp only [ti_nle, ti_nlt, ti_le, ti_lt, ti_eq, ti_ne, Classical.not_not, kt_0] at q
                omega
              have q166 := nP.no (by omega)
              have q167 : (gV τ 22 0 12).toInt = (tS T q75 : Int) ∧ (gV τ 22 0 12).toInt ≤ 400 := ⟨n1_.1.1, n1_.1.2.2.2.2.2.2⟩
              refine m_aload_n C dX12_tower_107 rfl rfl ?_
              refine m_aload_n C dX12_tower_108 rfl rfl ?_
              refine g_22_16 C q4_132 dX12_tower_109 ?_
              refine m_eqs (w := (gV τ 22 0 16)) rfl ?_
              refine m_if_ne (tgt := 127) C dX12_tower_112 (by decide) (fun c168 => ?_) (fun c168 => ?_)
              · exfalso
                have q : _ := c168
                simp only [ti_nle, ti_nlt, ti_le, ti_lt, ti_eq, ti_ne, Classical.not_not, kt_0] at q
                have q1 := b9; have q2 := kc_0; omega
              · have f170 : (gV τ 22 0 16).toInt = 0 := by
                  have q : _ := c168
                  simp only [ti_nle, ti_nlt, ti_le, ti_lt, ti_eq, ti_ne, Classical.not_not, kt_0] at q
                  omega
                refine m_aload_n C dX12_tower_115 rfl rfl ?_
                refine g_22_13 C q4_129 dX12_tower_116 ?_
                refine m_eqs (w := x13) ex13.symm ?_
                have q171 : (x13.toInt = 0 ↔ tK T N q75 = 1) := by have qc := n1_.1; rw [ex13]; omega
                have q172 : (x13.toInt = 4 ↔ tK T N q75 = 0) := by have qc := n1_.1; rw [ex13]; omega
                refine m_iconst (v := 4) C dX12_tower_119 (by decide) ?_
                refine m_icmp_eq (tgt := 127) C dX12_tower_120 (by decide) (fun c173 => ?_) (fun c173 => ?_)
                · exfalso
                  have q : _ := c173
                  simp only [ti_nle, ti_nlt, ti_le, ti_lt, ti_eq, ti_ne, Classical.not_not, kt_4] at q
                  have q1 := b155; have q2 := kc_4; omega
                · have f175 : x13.toInt ≠ 4 := by
                    have q : _ := c173
                    simp only [ti_nle, ti_nlt, ti_le, ti_lt, ti_eq, ti_ne, Classical.not_not, kt_4] at q
                    omega
                  refine m_iconst (v := 1) C dX12_tower_123 (by decide) ?_
                  refine m_goto (tgt := 131) C dX12_tower_124 (by decide) ?_
                  refine p_22_16 C q4_132 dX12_tower_131 ?_
                  refine m_tops (fun τ176 eτ176 => ?_)
                  have i177 : Inv τ176 := eτ176 ▸ Inv.putF iτ (by decide) rfl
                  have f178 : Fr MS_X12_towerT AS_X12_towerT σ τ176 := eτ176 ▸ Fr.put (fτ) (Or.inl (by decide))
                  have v179 : TpM τ176 T N := v_T.put eτ176 (Or.inr (by decide)) (by decide)
                  have v180 : τ176.2.2.1 = τ.2.2.1 := by rw [eτ176]; rfl
                  have v181 : LW T N q75 τ176.2.2.1 := by rw [eτ176]; exact nw
                  have v182 : CuM T N q75 τ176 := CuM.put n1_ eτ176 (Or.inr (by decide))
                  have v183 : Pb τ176 := nb.put eτ176 (Or.inl (by decide))
                  refine m_aload_n C dX12_tower_134 rfl rfl ?_
                  refine m_iconst (v := 0) C dX12_tower_135 (by decide) ?_
                  refine p_22_6 C q4_122 dX12_tower_136 ?_
                  refine m_tops (fun τ184 eτ184 => ?_)
                  have i185 : Inv τ184 := eτ184 ▸ Inv.put i177 (by decide) (iv_wk kc_0 (by decide))
                  have f186 : Fr MS_X12_towerT AS_X12_towerT σ τ184 := eτ184 ▸ Fr.put (f178) (Or.inl (by decide))
                  have v188 : τ184.2.2.1 = τ.2.2.1 := by rw [eτ184]; exact v180
                  have v189 : LW T N q75 τ184.2.2.1 := by rw [eτ184]; exact v181
                  have v190 : Pb τ184 := v183.put eτ184 (Or.inl (by decide))
                  refine m_aload_n C dX12_tower_139 rfl rfl ?_
                  refine g_22_16 C q4_132 dX12_tower_140 ?_
                  refine m_eqs (w := 1) (show gV τ184 22 0 16 = 1 from gV_put eτ184 (show gV τ176 22 0 16 = 1 from gV_put eτ176 (gV_self _ _ _ _ _))) ?_
                  refine m_if_eq (tgt := 162) C dX12_tower_143 (by decide) (fun c191 => ?_) (fun c191 => ?_)
                  · first | exact absurd c191 (by decide) | exact absurd (by decide) c191
                  · have f193 : 1 ≠ 0 := by
                      have q : _ := c191
                      simp only [ti_nle, ti_nlt, ti_le, ti_lt, ti_eq, ti_ne, Classical.not_not, kt_1, kt_0] at q
                      omega
                    refine m_aload_n C dX12_tower_146 rfl rfl ?_
                    refine m_aload_n C dX12_tower_147 rfl rfl ?_
                    refine g_22_16 C q4_132 dX12_tower_148 ?_
                    refine m_eqs (w := 1) (show gV τ184 22 0 16 = 1 from gV_put eτ184 (show gV τ176 22 0 16 = 1 from gV_put eτ176 (gV_self _ _ _ _ _))) ?_
                    refine p_22_7 C q4_123 dX12_tower_151 ?_
                    refine m_tops (fun τ194 eτ194 => ?_)
                    have i195 : Inv τ194 := eτ194 ▸ Inv.putF i185 (by decide) rfl
                    have f196 : Fr MS_X12_towerT AS_X12_towerT σ τ194 := eτ194 ▸ Fr.put (f186) (Or.inl (by decide))
                    have v197 : τ194.2.2.1 = τ.2.2.1 := by rw [eτ194]; exact v188
                    have v198 : LW T N q75 τ194.2.2.1 := by rw [eτ194]; exact v189
                    have v199 : Pb τ194 := v190.put eτ194 (Or.inl (by decide))
                    refine m_ldc (v := (-1000100)) C dX12_tower_154 q5_34 ?_
                    refine m_aload_n C dX12_tower_156 rfl rfl ?_
                    refine g_22_12 C q4_128 dX12_tower_157 ?_
                    refine m_eqs (w := (gV τ 22 0 12)) (show gV τ194 22 0 12 = (gV τ 22 0 12) from gV_put eτ194 (show gV τ184 22 0 12 = (gV τ 22 0 12) from gV_put eτ184 (show gV τ176 22 0 12 = (gV τ 22 0 12) from gV_put eτ176 rfl))) ?_
                    have a200 : gV τ194 22 0 11 = (gV τ 22 0 11) := (show gV τ194 22 0 11 = (gV τ 22 0 11) from gV_put eτ194 (show gV τ184 22 0 11 = (gV τ 22 0 11) from gV_put eτ184 (show gV τ176 22 0 11 = (gV τ 22 0 11) from gV_put eτ176 rfl)))
                    have q201 : (gV τ194 22 0 11).toInt = (gV τ 22 0 11).toInt := congrArg Int32.toInt a200
                    have a202 : gV τ194 22 0 12 = (gV τ 22 0 12) := (show gV τ194 22 0 12 = (gV τ 22 0 12) from gV_put eτ194 (show gV τ184 22 0 12 = (gV τ 22 0 12) from gV_put eτ184 (show gV τ176 22 0 12 = (gV τ 22 0 12) from gV_put eτ176 rfl)))
                    have q203 : (gV τ194 22 0 12).toInt = (gV τ 22 0 12).toInt := congrArg Int32.toInt a202
                    have a204 : gV τ194 23 0 150 = (gV τ 23 0 150) := (show gV τ194 23 0 150 = (gV τ 23 0 150) from gV_put eτ194 (show gV τ184 23 0 150 = (gV τ 23 0 150) from gV_put eτ184 (show gV τ176 23 0 150 = (gV τ 23 0 150) from gV_put eτ176 rfl)))
                    have q205 : (gV τ194 23 0 150).toInt = (gV τ 23 0 150).toInt := congrArg Int32.toInt a204
                    have a206 : gV τ194 23 0 152 = (gV τ 23 0 152) := (show gV τ194 23 0 152 = (gV τ 23 0 152) from gV_put eτ194 (show gV τ184 23 0 152 = (gV τ 23 0 152) from gV_put eτ184 (show gV τ176 23 0 152 = (gV τ 23 0 152) from gV_put eτ176 rfl)))
                    have q207 : (gV τ194 23 0 152).toInt = (gV τ 23 0 152).toInt := congrArg Int32.toInt a206
                    have a208 : gV τ194 23 0 188 = (gV τ 23 0 188) := (show gV τ194 23 0 188 = (gV τ 23 0 188) from gV_put eτ194 (show gV τ184 23 0 188 = (gV τ 23 0 188) from gV_put eτ184 (show gV τ176 23 0 188 = (gV τ 23 0 188) from gV_put eτ176 rfl)))
                    have q209 : (gV τ194 23 0 188).toInt = (gV τ 23 0 188).toInt := congrArg Int32.toInt a208
                    have a210 : gV τ194 23 0 2 = (gV τ 23 0 2) := (show gV τ194 23 0 2 = (gV τ 23 0 2) from gV_put eτ194 (show gV τ184 23 0 2 = (gV τ 23 0 2) from gV_put eτ184 (show gV τ176 23 0 2 = (gV τ 23 0 2) from gV_put eτ176 rfl)))
                    have q211 : (gV τ194 23 0 2).toInt = (gV τ 23 0 2).toInt := congrArg Int32.toInt a210
                    have a212 : gV τ194 22 0 16 = 1 := (show gV τ194 22 0 16 = 1 from gV_put eτ194 (show gV τ184 22 0 16 = 1 from gV_put eτ184 (show gV τ176 22 0 16 = 1 from gV_put eτ176 (gV_self _ _ _ _ _))))
                    have q213 : (gV τ194 22 0 16).toInt = 1 := (congrArg Int32.toInt a212).trans kt_1
                    have a214 : gV τ194 22 0 6 = 0 := (show gV τ194 22 0 6 = 0 from gV_put eτ194 (show gV τ184 22 0 6 = 0 from gV_put eτ184 (gV_self _ _ _ _ _)))
                    have q215 : (gV τ194 22 0 6).toInt = 0 := (congrArg Int32.toInt a214).trans kt_0
                    have a216 : gV τ194 22 0 7 = 1 := (show gV τ194 22 0 7 = 1 from gV_put eτ194 (gV_self _ _ _ _ _))
                    have q217 : (gV τ194 22 0 7).toInt = 1 := (congrArg Int32.toInt a216).trans kt_1
                    have b218 : IV (gV τ 22 0 12) 0 400 := ⟨by have q1 := (iv_any (gV τ 22 0 12)); omega, by have q1 := (iv_any (gV τ 22 0 12)); omega⟩
                    refine m_isub C dX12_tower_160 ?_
                    refine m_topi (fun x219 ex219 => ?_)
                    have tx219 : x219.toInt = -1000100 - (gV τ 22 0 12).toInt := by rw [ex219, ti_subv kc_m1000100 b218 (by decide), kt_m1000100]
                    have b220 : IV x219 (-1000500) (-1000100) := by rw [ex219]; exact iv_sub kc_m1000100 b218 (by decide)
                    exact m_iret C hr hlk (by decide) (by decide) dX12_tower_161 ⟨_, rfl, i195, f196, (iv_wk b220 (by decide)), (Or.inl ⟨by omega, by omega, by omega, by omega⟩)⟩
            · have f221 : x159.toInt = 0 := by
                have q : _ := c164
                simp only [ti_nle, ti_nlt, ti_le, ti_lt, ti_eq, ti_ne, Classical.not_not, kt_0] at q
                omega
              have b222 : IV x159 0 0 := ⟨by have q1 := b160; have q2 := kc_0; omega, by have q1 := b160; have q2 := kc_0; omega⟩
              refine m_aload_n C dX12_tower_100 rfl rfl ?_
              refine m_callV (n := 0) (ci := 11) (st := []) C (c_X12_takeStoneE l G τ T N q75 ((gV τ 23 0 188).toInt.toNat : Nat)  iτ v_T n1_ (by omega) (by omega) (by omega) nb (by omega)) (by decide) (by decide) rfl rfl rfl q5_33 q5_30 q5_32 q0_34 q1_7 (by decide +kernel) rfl (by decide) (by decide) rfl (Nat.le_of_ble_eq_true rfl) dX12_tower_101 ?_
              rintro _ τ223 ⟨rfl, i224, f225, h229⟩
              have g228 : Fr MS_X12_towerT AS_X12_towerT σ τ223 := Fr.call (fτ) f225 (by decide)
              have v230 : TpM τ223 T N := v_T.fr f225 (by decide) (by decide) (by simp) (by decide)
              have u231 : IV (gV τ223 22 0 11) 0 400 := i224.1 22 0 11
              have u232 : IV (gV τ223 23 0 152) 0 7 := i224.1 23 0 152
              have u233 : IV (gV τ223 23 0 188) 0 4 := i224.1 23 0 188
              have u234 : IV (gV τ223 23 0 2) 0 7 := i224.1 23 0 2
              have a235 : gV τ223 22 0 6 = (gV τ 22 0 6) := (show gV τ223 22 0 6 = (gV τ 22 0 6) from (f225.1 22 0 (6) (by decide) (by decide)).trans rfl)
              have q236 : (gV τ223 22 0 6).toInt = (gV τ 22 0 6).toInt := congrArg Int32.toInt a235
              have a237 : gV τ223 22 0 7 = (gV τ 22 0 7) := (show gV τ223 22 0 7 = (gV τ 22 0 7) from (f225.1 22 0 (7) (by decide) (by decide)).trans rfl)
              have q238 : (gV τ223 22 0 7).toInt = (gV τ 22 0 7).toInt := congrArg Int32.toInt a237
              rcases h229 with ⟨h229_0, h229_1, h229_2, h229_3, h229_4, h229_5, h229_6⟩ | ⟨h229_0, h229_1, h229_2, h229_3, h229_4, h229_5, h229_6, h229_7⟩
              · skip
                have q239 := nP.bad (by omega) ⟨by omega, by omega⟩ h229_0
                have b240 : IV (gV τ223 22 0 16) 1 3 := ⟨by omega, by omega⟩
                show MW p l e _ s m args below meth c _ 2 G 0 0 104 [some (.ref (G.1 22 0)), none] [] τ223
                refine m_goto (tgt := 75) C dX12_tower_104 (by decide) ?_
                exact ih75 τ223 (tE T N (tE T N (tE T N (tE T N q75)))) i224 g228 v230 (Or.inr ⟨by omega, by omega, by omega, by omega, by omega, by omega, by omega, by omega⟩) (by omega) (by have q := hm75; omega)
              · skip
                have b241 : IV (gV τ223 22 0 16) 0 0 := ⟨by omega, by omega⟩
                have v242 : CuM T N (tE T N (tE T N (tE T N (tE T N q75)))) τ223 := ⟨h229_3, h229_5⟩
                clear h229_3
                show MW p l e _ s m args below meth c _ 2 G 0 0 104 [some (.ref (G.1 22 0)), none] [] τ223
                refine m_goto (tgt := 75) C dX12_tower_104 (by decide) ?_
                exact ih75 τ223 (tE T N (tE T N (tE T N (tE T N q75)))) i224 g228 v230 (Or.inl ⟨by omega, v242, by omega, h229_6, h229_7, (by rw [show (gV τ223 23 0 152).toInt.toNat = (gV τ 23 0 152).toInt.toNat by omega, show (gV τ223 23 0 188).toInt.toNat = (gV τ 23 0 188).toInt.toNat + 1 by omega]; exact nP.go (by omega) ⟨by omega, by omega⟩ (by omega))⟩) (by omega) (by have q := hm75; omega)
      · skip
        have b243 : IV (gV τ 22 0 16) 1 3 := ⟨by omega, by omega⟩
        refine m_aload_n C dX12_tower_75 rfl rfl ?_
        refine g_22_16 C q4_132 dX12_tower_76 ?_
        refine m_eqs (w := (gV τ 22 0 16)) rfl ?_
        refine m_if_ne (tgt := 107) C dX12_tower_79 (by decide) (fun c244 => ?_) (fun c244 => ?_)
        · have f245 : (gV τ 22 0 16).toInt ≠ 0 := by
            have q : _ := c244
            simp only [ti_nle, ti_nlt, ti_le, ti_lt, ti_eq, ti_ne, Classical.not_not, kt_0] at q
            omega
          refine m_aload_n C dX12_tower_107 rfl rfl ?_
          refine m_aload_n C dX12_tower_108 rfl rfl ?_
          refine g_22_16 C q4_132 dX12_tower_109 ?_
          refine m_eqs (w := (gV τ 22 0 16)) rfl ?_
          refine m_if_ne (tgt := 127) C dX12_tower_112 (by decide) (fun c246 => ?_) (fun c246 => ?_)
          · have f247 : (gV τ 22 0 16).toInt ≠ 0 := by
              have q : _ := c246
              simp only [ti_nle, ti_nlt, ti_le, ti_lt, ti_eq, ti_ne, Classical.not_not, kt_0] at q
              omega
            refine m_aload_n C dX12_tower_127 rfl rfl ?_
            refine g_22_16 C q4_132 dX12_tower_128 ?_
            refine m_eqs (w := (gV τ 22 0 16)) rfl ?_
            refine p_22_16 C q4_132 dX12_tower_131 ?_
            refine m_tops (fun τ248 eτ248 => ?_)
            have i249 : Inv τ248 := eτ248 ▸ Inv.putF iτ (by decide) rfl
            have f250 : Fr MS_X12_towerT AS_X12_towerT σ τ248 := eτ248 ▸ Fr.put (fτ) (Or.inl (by decide))
            have v251 : TpM τ248 T N := v_T.put eτ248 (Or.inr (by decide)) (by decide)
            have v252 : τ248.2.2.1 = τ.2.2.1 := by rw [eτ248]; rfl
            refine m_aload_n C dX12_tower_134 rfl rfl ?_
            refine m_iconst (v := 0) C dX12_tower_135 (by decide) ?_
            refine p_22_6 C q4_122 dX12_tower_136 ?_
            refine m_tops (fun τ253 eτ253 => ?_)
            have i254 : Inv τ253 := eτ253 ▸ Inv.put i249 (by decide) (iv_wk kc_0 (by decide))
            have f255 : Fr MS_X12_towerT AS_X12_towerT σ τ253 := eτ253 ▸ Fr.put (f250) (Or.inl (by decide))
            have v257 : τ253.2.2.1 = τ.2.2.1 := by rw [eτ253]; exact v252
            refine m_aload_n C dX12_tower_139 rfl rfl ?_
            refine g_22_16 C q4_132 dX12_tower_140 ?_
            refine m_eqs (w := (gV τ 22 0 16)) (show gV τ253 22 0 16 = (gV τ 22 0 16) from gV_put eτ253 (show gV τ248 22 0 16 = (gV τ 22 0 16) from gV_put eτ248 (gV_self _ _ _ _ _))) ?_
            refine m_if_eq (tgt := 162) C dX12_tower_143 (by decide) (fun c258 => ?_) (fun c258 => ?_)
            · exfalso
              have q : _ := c258
              simp only [ti_nle, ti_nlt, ti_le, ti_lt, ti_eq, ti_ne, Classical.not_not, kt_0] at q
              have q1 := b243; have q2 := kc_0; omega
            · have f260 : (gV τ 22 0 16).toInt ≠ 0 := by
                have q : _ := c258
                simp only [ti_nle, ti_nlt, ti_le, ti_lt, ti_eq, ti_ne, Classical.not_not, kt_0] at q
                omega
              refine m_aload_n C dX12_tower_146 rfl rfl ?_
              refine m_aload_n C dX12_tower_147 rfl rfl ?_
              refine g_22_16 C q4_132 dX12_tower_148 ?_
              refine m_eqs (w := (gV τ 22 0 16)) (show gV τ253 22 0 16 = (gV τ 22 0 16) from gV_put eτ253 (show gV τ248 22 0 16 = (gV τ 22 0 16) from gV_put eτ248 (gV_self _ _ _ _ _))) ?_
              refine p_22_7 C q4_123 dX12_tower_151 ?_
              refine m_tops (fun τ261 eτ261 => ?_)
              have i262 : Inv τ261 := eτ261 ▸ Inv.putF i254 (by decide) rfl
              have f263 : Fr MS_X12_towerT AS_X12_towerT σ τ261 := eτ261 ▸ Fr.put (f255) (Or.inl (by decide))
              have v264 : τ261.2.2.1 = τ.2.2.1 := by rw [eτ261]; exact v257
              refine m_ldc (v := (-1000100)) C dX12_tower_154 q5_34 ?_
              refine m_aload_n C dX12_tower_156 rfl rfl ?_
              refine g_22_12 C q4_128 dX12_tower_157 ?_
              refine m_eqs (w := (gV τ 22 0 12)) (show gV τ261 22 0 12 = (gV τ 22 0 12) from gV_put eτ261 (show gV τ253 22 0 12 = (gV τ 22 0 12) from gV_put eτ253 (show gV τ248 22 0 12 = (gV τ 22 0 12) from gV_put eτ248 rfl))) ?_
              have a265 : gV τ261 22 0 11 = (gV τ 22 0 11) := (show gV τ261 22 0 11 = (gV τ 22 0 11) from gV_put eτ261 (show gV τ253 22 0 11 = (gV τ 22 0 11) from gV_put eτ253 (show gV τ248 22 0 11 = (gV τ 22 0 11) from gV_put eτ248 rfl)))
              have q266 : (gV τ261 22 0 11).toInt = (gV τ 22 0 11).toInt := congrArg Int32.toInt a265
              have a267 : gV τ261 22 0 12 = (gV τ 22 0 12) := (show gV τ261 22 0 12 = (gV τ 22 0 12) from gV_put eτ261 (show gV τ253 22 0 12 = (gV τ 22 0 12) from gV_put eτ253 (show gV τ248 22 0 12 = (gV τ 22 0 12) from gV_put eτ248 rfl)))
              have q268 : (gV τ261 22 0 12).toInt = (gV τ 22 0 12).toInt := congrArg Int32.toInt a267
              have a269 : gV τ261 23 0 150 = (gV τ 23 0 150) := (show gV τ261 23 0 150 = (gV τ 23 0 150) from gV_put eτ261 (show gV τ253 23 0 150 = (gV τ 23 0 150) from gV_put eτ253 (show gV τ248 23 0 150 = (gV τ 23 0 150) from gV_put eτ248 rfl)))
              have q270 : (gV τ261 23 0 150).toInt = (gV τ 23 0 150).toInt := congrArg Int32.toInt a269
              have a271 : gV τ261 23 0 152 = (gV τ 23 0 152) := (show gV τ261 23 0 152 = (gV τ 23 0 152) from gV_put eτ261 (show gV τ253 23 0 152 = (gV τ 23 0 152) from gV_put eτ253 (show gV τ248 23 0 152 = (gV τ 23 0 152) from gV_put eτ248 rfl)))
              have q272 : (gV τ261 23 0 152).toInt = (gV τ 23 0 152).toInt := congrArg Int32.toInt a271
              have a273 : gV τ261 23 0 188 = (gV τ 23 0 188) := (show gV τ261 23 0 188 = (gV τ 23 0 188) from gV_put eτ261 (show gV τ253 23 0 188 = (gV τ 23 0 188) from gV_put eτ253 (show gV τ248 23 0 188 = (gV τ 23 0 188) from gV_put eτ248 rfl)))
              have q274 : (gV τ261 23 0 188).toInt = (gV τ 23 0 188).toInt := congrArg Int32.toInt a273
              have a275 : gV τ261 23 0 2 = (gV τ 23 0 2) := (show gV τ261 23 0 2 = (gV τ 23 0 2) from gV_put eτ261 (show gV τ253 23 0 2 = (gV τ 23 0 2) from gV_put eτ253 (show gV τ248 23 0 2 = (gV τ 23 0 2) from gV_put eτ248 rfl)))
              have q276 : (gV τ261 23 0 2).toInt = (gV τ 23 0 2).toInt := congrArg Int32.toInt a275
              have a277 : gV τ261 22 0 16 = (gV τ 22 0 16) := (show gV τ261 22 0 16 = (gV τ 22 0 16) from gV_put eτ261 (show gV τ253 22 0 16 = (gV τ 22 0 16) from gV_put eτ253 (show gV τ248 22 0 16 = (gV τ 22 0 16) from gV_put eτ248 (gV_self _ _ _ _ _))))
              have q278 : (gV τ261 22 0 16).toInt = (gV τ 22 0 16).toInt := congrArg Int32.toInt a277
              have a279 : gV τ261 22 0 6 = 0 := (show gV τ261 22 0 6 = 0 from gV_put eτ261 (show gV τ253 22 0 6 = 0 from gV_put eτ253 (gV_self _ _ _ _ _)))
              have q280 : (gV τ261 22 0 6).toInt = 0 := (congrArg Int32.toInt a279).trans kt_0
              have a281 : gV τ261 22 0 7 = (gV τ 22 0 16) := (show gV τ261 22 0 7 = (gV τ 22 0 16) from gV_put eτ261 (gV_self _ _ _ _ _))
              have q282 : (gV τ261 22 0 7).toInt = (gV τ 22 0 16).toInt := congrArg Int32.toInt a281
              have b283 : IV (gV τ 22 0 12) 0 400 := ⟨by have q1 := (iv_any (gV τ 22 0 12)); omega, by have q1 := (iv_any (gV τ 22 0 12)); omega⟩
              refine m_isub C dX12_tower_160 ?_
              refine m_topi (fun x284 ex284 => ?_)
              have tx284 : x284.toInt = -1000100 - (gV τ 22 0 12).toInt := by rw [ex284, ti_subv kc_m1000100 b283 (by decide), kt_m1000100]
              have b285 : IV x284 (-1000500) (-1000100) := by rw [ex284]; exact iv_sub kc_m1000100 b283 (by decide)
              exact m_iret C hr hlk (by decide) (by decide) dX12_tower_161 ⟨_, rfl, i262, f263, (iv_wk b285 (by decide)), (Or.inl ⟨by omega, by omega, by omega, by omega⟩)⟩
          · exfalso
            have q : _ := c246
            simp only [ti_nle, ti_nlt, ti_le, ti_lt, ti_eq, ti_ne, Classical.not_not, kt_0] at q
            have q1 := b243; have q2 := kc_0; omega
        · exfalso
          have q : _ := c244
          simp only [ti_nle, ti_nlt, ti_le, ti_lt, ti_eq, ti_ne, Classical.not_not, kt_0] at q
          have q1 := b243; have q2 := kc_0; omega
  have J43 : ∀ (n : Nat) (τ : Sg) (q43 : Nat), Inv τ → Fr MS_X12_towerT AS_X12_towerT σ τ → (TpM τ T N) → ((((gV τ 22 0 16).toInt = 0 ∧ CuM T N q43 τ ∧ (gV τ 22 0 11).toInt ≤ (gV τ 22 0 6).toInt ∧ (gV τ 23 0 150).toInt = tV T (tE T N 0) ∧ 4 ≤ (gV τ 23 0 150).toInt ∧ (gV τ 23 0 150).toInt ≤ 32 ∧ (gV τ 23 0 188).toInt = 0 ∧ Pb τ ∧ LW T N q43 τ.2.2.1 ∧ PI_ T N (gV τ 23 0 152).toInt.toNat q43) ∨ ((1 ≤ (gV τ 22 0 16).toInt ∧ (gV τ 22 0 16).toInt ≤ 3) ∧ outF T N = (gV τ 22 0 16).toInt ∧ ((gV τ 22 0 12).toInt = outP T N ∧ 0 ≤ outP T N ∧ (gV τ 22 0 12).toInt ≤ 400) ∧ (gV τ 22 0 11).toInt ≤ (gV τ 22 0 6).toInt ∧ 0 ≤ (gV τ 23 0 152).toInt ∧ (gV τ 23 0 152).toInt ≤ 7 ∧ 0 ≤ (gV τ 23 0 188).toInt ∧ (gV τ 23 0 188).toInt ≤ 4))) → ((gV τ 22 0 7).toInt = (gV σ 22 0 7).toInt) → (2 * (8 - (gV τ 23 0 152).toInt) + 1 - min 1 (max (gV τ 22 0 16).toInt (-(gV τ 22 0 16).toInt))).toNat < n → MW p l e { frames := 4, cells := 0, slots := 0, locals := 92 } s m args below meth c (MQ below (QP G (PI fun r τ => Inv τ ∧ Fr MS_X12_towerT AS_X12_towerT σ τ ∧ IV r (-1000500) 7 ∧ ((r.toInt = -1000100 - outP T N ∧ outF T N ≠ 0 ∧ (gV τ 22 0 7).toInt = outF T N ∧ (gV τ 22 0 6).toInt = 0) ∨ (r.toInt = outN T N ∧ outF T N = 0 ∧ (gV τ 22 0 7).toInt = (gV σ 22 0 7).toInt ∧ (gV τ 22 0 6).toInt = 0)))) args s 0 0 (aG G)) 2 G 0 0 43 [some (.ref (G.1 22 0)), none] [] τ := by
    intro n
    induction n with
    | zero => intro τ q43 iτ fτ v_T nR n288 hm; exact absurd hm (Nat.not_lt_zero _)
    | succ n ih43 =>
      intro τ q43 iτ fτ v_T nR n288 hm43
      have u289 : IV (gV τ 22 0 11) 0 400 := iτ.1 22 0 11
      have u290 : IV (gV τ 22 0 6) 0 400 := iτ.1 22 0 6
      have u291 : IV (gV τ 23 0 152) 0 7 := iτ.1 23 0 152
      have u292 : IV (gV τ 23 0 188) 0 4 := iτ.1 23 0 188
      have u293 : IV (gV τ 23 0 2) 0 7 := iτ.1 23 0 2
      have q294 : (gV τ 22 0 6).toInt = (N : Int) := v_T.1
      have q295 := v_T.2.1
      rcases nR with ⟨n0_, n1_, n2_, n3_, n4_, n5_, n6_, nb, nw, nP⟩ | ⟨n0_, n1_, n2_, n3_, n4_, n5_, n6_, n7_⟩
      · skip
        have b296 : IV (gV τ 22 0 16) 0 0 := ⟨by omega, by omega⟩
        refine m_aload_n C dX12_tower_43 rfl rfl ?_
        refine g_22_16 C q4_132 dX12_tower_44 ?_
        refine m_eqs (w := (gV τ 22 0 16)) rfl ?_
        refine m_if_ne (tgt := 75) C dX12_tower_47 (by decide) (fun c297 => ?_) (fun c297 => ?_)
        · exfalso
          have q : _ := c297
          simp only [ti_nle, ti_nlt, ti_le, ti_lt, ti_eq, ti_ne, Classical.not_not, kt_0] at q
          have q1 := b296; have q2 := kc_0; omega
        · have f299 : (gV τ 22 0 16).toInt = 0 := by
            have q : _ := c297
            simp only [ti_nle, ti_nlt, ti_le, ti_lt, ti_eq, ti_ne, Classical.not_not, kt_0] at q
            omega
          refine m_aload_n C dX12_tower_50 rfl rfl ?_
          refine g_22_13 C q4_129 dX12_tower_51 ?_
          refine m_topi (fun x300 ex300 => ?_)
          have q301 : (x300.toInt = 0 ↔ tK T N q43 = 1) := by have qc := n1_.1; rw [ex300]; omega
          have q302 : (x300.toInt = 4 ↔ tK T N q43 = 0) := by have qc := n1_.1; rw [ex300]; omega
          refine m_if_ne (tgt := 75) C dX12_tower_54 (by decide) (fun c303 => ?_) (fun c303 => ?_)
          · have f304 : x300.toInt ≠ 0 := by
              have q : _ := c303
              simp only [ti_nle, ti_nlt, ti_le, ti_lt, ti_eq, ti_ne, Classical.not_not, kt_0] at q
              omega
            exact J75 ((2 * (5 - (gV τ 23 0 188).toInt) + 1 - min 1 (max (gV τ 22 0 16).toInt (-(gV τ 22 0 16).toInt))).toNat + 1) τ q43 iτ fτ v_T (Or.inl ⟨by omega, n1_, by omega, nb, nw, (by rw [show (gV τ 23 0 152).toInt.toNat = (gV τ 23 0 152).toInt.toNat by omega, show (gV τ 23 0 188).toInt.toNat = 0 by omega]; exact nP.no (by omega))⟩) (by omega) (Nat.lt_succ_self _)
          · have f305 : x300.toInt = 0 := by
              have q : _ := c303
              simp only [ti_nle, ti_nlt, ti_le, ti_lt, ti_eq, ti_ne, Classical.not_not, kt_0] at q
              omega
            have b306 : IV x300 0 0 := ⟨by have q1 := (iv_any x300); have q2 := kc_0; omega, by have q1 := (iv_any x300); have q2 := kc_0; omega⟩
            refine m_aload_n C dX12_tower_57 rfl rfl ?_
            refine g_22_14 C q4_130 dX12_tower_58 ?_
            refine m_topl (fun w307 ew307 => ?_)
            have q308 : tK T N q43 = 1 := by omega
            have q309 : (w307.toInt = 542723566 ↔ tW T N q43 1 = 1) := by rw [ew307]; exact LW.at1 nw q308
            refine m_ldc2 (v := 542723566) C dX12_tower_61 q5_16 ?_
            refine m_lcmp C dX12_tower_64 ?_
            refine m_topi (fun x310 ex310 => ?_)
            have b311 : IV x310 (-1) 1 := by rw [ex310]; rcases lgc w307 542723566 with q | q | q <;> omega
            have f312 := lgc w307 542723566
            rw [← ex310] at f312
            have f314 := kl_542723566
            refine m_if_ne (tgt := 75) C dX12_tower_65 (by decide) (fun c315 => ?_) (fun c315 => ?_)
            · have f316 : x310.toInt ≠ 0 := by
                have q : _ := c315
                simp only [ti_nle, ti_nlt, ti_le, ti_lt, ti_eq, ti_ne, Classical.not_not, kt_0] at q
                omega
              exact J75 ((2 * (5 - (gV τ 23 0 188).toInt) + 1 - min 1 (max (gV τ 22 0 16).toInt (-(gV τ 22 0 16).toInt))).toNat + 1) τ q43 iτ fτ v_T (Or.inl ⟨by omega, n1_, by omega, nb, nw, (by rw [show (gV τ 23 0 152).toInt.toNat = (gV τ 23 0 152).toInt.toNat by omega, show (gV τ 23 0 188).toInt.toNat = 0 by omega]; exact nP.no (by omega))⟩) (by omega) (Nat.lt_succ_self _)
            · have f317 : x310.toInt = 0 := by
                have q : _ := c315
                simp only [ti_nle, ti_nlt, ti_le, ti_lt, ti_eq, ti_ne, Classical.not_not, kt_0] at q
                omega
              have b318 : IV x310 0 0 := ⟨by have q1 := b311; have q2 := kc_0; omega, by have q1 := b311; have q2 := kc_0; omega⟩
              refine m_aload_n C dX12_tower_68 rfl rfl ?_
              refine m_callV (n := 0) (ci := 11) (st := []) C (c_X12_takePersonE l G τ T N q43 (tV T (tE T N 0)) ((gV τ 23 0 152).toInt.toNat : Nat)  iτ v_T n1_ (by omega) (by omega) (by omega) nb (by omega)) (by decide) (by decide) rfl rfl rfl q5_20 q5_17 q5_19 q0_33 q1_7 (by decide +kernel) rfl (by decide) (by decide) rfl (Nat.le_of_ble_eq_true rfl) dX12_tower_69 ?_
              rintro _ τ319 ⟨rfl, i320, f321, h325⟩
              have g324 : Fr MS_X12_towerT AS_X12_towerT σ τ319 := Fr.call (fτ) f321 (by decide)
              have v326 : TpM τ319 T N := v_T.fr f321 (by decide) (by decide) (by simp) (by decide)
              have u327 : IV (gV τ319 22 0 11) 0 400 := i320.1 22 0 11
              have u328 : IV (gV τ319 23 0 152) 0 7 := i320.1 23 0 152
              have u329 : IV (gV τ319 23 0 188) 0 4 := i320.1 23 0 188
              have u330 : IV (gV τ319 23 0 2) 0 7 := i320.1 23 0 2
              have a331 : gV τ319 22 0 6 = (gV τ 22 0 6) := (show gV τ319 22 0 6 = (gV τ 22 0 6) from (f321.1 22 0 (6) (by decide) (by decide)).trans rfl)
              have q332 : (gV τ319 22 0 6).toInt = (gV τ 22 0 6).toInt := congrArg Int32.toInt a331
              have a333 : gV τ319 22 0 7 = (gV τ 22 0 7) := (show gV τ319 22 0 7 = (gV τ 22 0 7) from (f321.1 22 0 (7) (by decide) (by decide)).trans rfl)
              have q334 : (gV τ319 22 0 7).toInt = (gV τ 22 0 7).toInt := congrArg Int32.toInt a333
              rcases h325 with ⟨h325_0, h325_1, h325_2, h325_3, h325_4, h325_5⟩ | ⟨h325_0, h325_1, h325_2, h325_3, h325_4, h325_5, h325_6, h325_7⟩
              · skip
                have q335 := nP.bad (by omega) ⟨by omega, by omega⟩ h325_0
                have b336 : IV (gV τ319 22 0 16) 1 3 := ⟨by omega, by omega⟩
                show MW p l e _ s m args below meth c _ 2 G 0 0 72 [some (.ref (G.1 22 0)), none] [] τ319
                refine m_goto (tgt := 43) C dX12_tower_72 (by decide) ?_
                exact ih43 τ319 (tE T N (tE T N (tE T N (tE T N (tE T N (tE T N q43)))))) i320 g324 v326 (Or.inr ⟨by omega, by omega, by omega, by omega, by omega, by omega, by omega, by omega⟩) (by omega) (by have q := hm43; omega)
              · skip
                have b337 : IV (gV τ319 22 0 16) 0 0 := ⟨by omega, by omega⟩
                have v338 : CuM T N (tE T N (tE T N (tE T N (tE T N (tE T N (tE T N q43)))))) τ319 := ⟨h325_3, h325_5⟩
                clear h325_3
                show MW p l e _ s m args below meth c _ 2 G 0 0 72 [some (.ref (G.1 22 0)), none] [] τ319
                refine m_goto (tgt := 43) C dX12_tower_72 (by decide) ?_
                exact ih43 τ319 (tE T N (tE T N (tE T N (tE T N (tE T N (tE T N q43)))))) i320 g324 v326 (Or.inl ⟨by omega, v338, by omega, by omega, by omega, by omega, by omega, h325_6, h325_7, (by rw [show (gV τ319 23 0 152).toInt.toNat = (gV τ 23 0 152).toInt.toNat + 1 by omega]; exact nP.go (by omega) ⟨by omega, by omega⟩ (by omega))⟩) (by omega) (by have q := hm43; omega)
      · skip
        have b339 : IV (gV τ 22 0 16) 1 3 := ⟨by omega, by omega⟩
        refine m_aload_n C dX12_tower_43 rfl rfl ?_
        refine g_22_16 C q4_132 dX12_tower_44 ?_
        refine m_eqs (w := (gV τ 22 0 16)) rfl ?_
        refine m_if_ne (tgt := 75) C dX12_tower_47 (by decide) (fun c340 => ?_) (fun c340 => ?_)
        · have f341 : (gV τ 22 0 16).toInt ≠ 0 := by
            have q : _ := c340
            simp only [ti_nle, ti_nlt, ti_le, ti_lt, ti_eq, ti_ne, Classical.not_not, kt_0] at q
            omega
          exact J75 ((2 * (5 - (gV τ 23 0 188).toInt) + 1 - min 1 (max (gV τ 22 0 16).toInt (-(gV τ 22 0 16).toInt))).toNat + 1) τ q43 iτ fτ v_T (Or.inr ⟨by omega, by omega, by omega, by omega, by omega, by omega, by omega, by omega⟩) (by omega) (Nat.lt_succ_self _)
        · exfalso
          have q : _ := c340
          simp only [ti_nle, ti_nlt, ti_le, ti_lt, ti_eq, ti_ne, Classical.not_not, kt_0] at q
          have q1 := b339; have q2 := kc_0; omega
  have J2 : ∀ (n : Nat) (τ : Sg) (y1 : Int32), Inv τ → Fr MS_X12_towerT AS_X12_towerT σ τ → IV y1 0 50 → (TpM τ T N) → ((3 ≤ y1.toInt → (gV τ 23 0 152).toInt = 0)) → ((39 ≤ y1.toInt → (gV τ 23 0 188).toInt = 0)) → ((gV τ 22 0 7).toInt = (gV σ 22 0 7).toInt) → (50 - y1.toInt).toNat < n → MW p l e { frames := 4, cells := 0, slots := 0, locals := 92 } s m args below meth c (MQ below (QP G (PI fun r τ => Inv τ ∧ Fr MS_X12_towerT AS_X12_towerT σ τ ∧ IV r (-1000500) 7 ∧ ((r.toInt = -1000100 - outP T N ∧ outF T N ≠ 0 ∧ (gV τ 22 0 7).toInt = outF T N ∧ (gV τ 22 0 6).toInt = 0) ∨ (r.toInt = outN T N ∧ outF T N = 0 ∧ (gV τ 22 0 7).toInt = (gV σ 22 0 7).toInt ∧ (gV τ 22 0 6).toInt = 0)))) args s 0 0 (aG G)) 2 G 0 0 2 [some (.ref (G.1 22 0)), some (.int y1)] [] τ := by
    intro n
    induction n with
    | zero => intro τ y1 iτ fτ b_y1 v_T nz nz2 n343 hm; exact absurd hm (Nat.not_lt_zero _)
    | succ n ih2 =>
      intro τ y1 iτ fτ b_y1 v_T nz nz2 n343 hm2
      have u344 : IV (gV τ 22 0 11) 0 400 := iτ.1 22 0 11
      have u345 : IV (gV τ 22 0 6) 0 400 := iτ.1 22 0 6
      have u346 : IV (gV τ 23 0 152) 0 7 := iτ.1 23 0 152
      have u347 : IV (gV τ 23 0 188) 0 4 := iτ.1 23 0 188
      have u348 : IV (gV τ 23 0 2) 0 7 := iτ.1 23 0 2
      have q349 : (gV τ 22 0 6).toInt = (N : Int) := v_T.1
      have q350 := v_T.2.1
      refine m_iload_n C dX12_tower_2 rfl rfl ?_
      refine m_bipush (v := 50) C dX12_tower_3 (by decide) ?_
      refine m_icmp_ge (tgt := 25) C dX12_tower_5 (by decide) (fun c351 => ?_) (fun c351 => ?_)
      · have f352 : 50 ≤ y1.toInt := by
          have q : _ := c351
          simp only [ti_nle, ti_nlt, ti_le, ti_lt, ti_eq, ti_ne, Classical.not_not, kt_50] at q
          omega
        have b353 : IV y1 50 50 := ⟨by have q1 := kc_50; have q2 := b_y1; omega, by have q1 := kc_50; have q2 := b_y1; omega⟩
        refine m_aload_n C dX12_tower_25 rfl rfl ?_
        refine m_iconst (v := 0) C dX12_tower_26 (by decide) ?_
        refine p_22_11 C q4_127 dX12_tower_27 ?_
        refine m_tops (fun τ354 eτ354 => ?_)
        have i355 : Inv τ354 := eτ354 ▸ Inv.put iτ (by decide) (iv_wk kc_0 (by decide))
        have f356 : Fr MS_X12_towerT AS_X12_towerT σ τ354 := eτ354 ▸ Fr.put (fτ) (Or.inl (by decide))
        have v357 : TpM τ354 T N := v_T.put eτ354 (Or.inr (by decide)) (by decide)
        have v358 : τ354.2.2.1 = τ.2.2.1 := by rw [eτ354]; rfl
        refine m_aload_n C dX12_tower_30 rfl rfl ?_
        refine m_iconst (v := 0) C dX12_tower_31 (by decide) ?_
        refine p_22_16 C q4_132 dX12_tower_32 ?_
        refine m_tops (fun τ359 eτ359 => ?_)
        have i360 : Inv τ359 := eτ359 ▸ Inv.putF i355 (by decide) rfl
        have f361 : Fr MS_X12_towerT AS_X12_towerT σ τ359 := eτ359 ▸ Fr.put (f356) (Or.inl (by decide))
        have v362 : TpM τ359 T N := v357.put eτ359 (Or.inr (by decide)) (by decide)
        have v363 : τ359.2.2.1 = τ.2.2.1 := by rw [eτ359]; exact v358
        refine m_aload_n C dX12_tower_35 rfl rfl ?_
        have a364 : gV τ359 22 0 12 = (gV τ 22 0 12) := (show gV τ359 22 0 12 = (gV τ 22 0 12) from gV_put eτ359 (show gV τ354 22 0 12 = (gV τ 22 0 12) from gV_put eτ354 rfl))
        have q365 : (gV τ359 22 0 12).toInt = (gV τ 22 0 12).toInt := congrArg Int32.toInt a364
        have a366 : gV τ359 22 0 6 = (gV τ 22 0 6) := (show gV τ359 22 0 6 = (gV τ 22 0 6) from gV_put eτ359 (show gV τ354 22 0 6 = (gV τ 22 0 6) from gV_put eτ354 rfl))
        have q367 : (gV τ359 22 0 6).toInt = (gV τ 22 0 6).toInt := congrArg Int32.toInt a366
        have a368 : gV τ359 22 0 7 = (gV τ 22 0 7) := (show gV τ359 22 0 7 = (gV τ 22 0 7) from gV_put eτ359 (show gV τ354 22 0 7 = (gV τ 22 0 7) from gV_put eτ354 rfl))
        have q369 : (gV τ359 22 0 7).toInt = (gV τ 22 0 7).toInt := congrArg Int32.toInt a368
        have a370 : gV τ359 23 0 150 = (gV τ 23 0 150) := (show gV τ359 23 0 150 = (gV τ 23 0 150) from gV_put eτ359 (show gV τ354 23 0 150 = (gV τ 23 0 150) from gV_put eτ354 rfl))
        have q371 : (gV τ359 23 0 150).toInt = (gV τ 23 0 150).toInt := congrArg Int32.toInt a370
        have a372 : gV τ359 23 0 152 = (gV τ 23 0 152) := (show gV τ359 23 0 152 = (gV τ 23 0 152) from gV_put eτ359 (show gV τ354 23 0 152 = (gV τ 23 0 152) from gV_put eτ354 rfl))
        have q373 : (gV τ359 23 0 152).toInt = (gV τ 23 0 152).toInt := congrArg Int32.toInt a372
        have a374 : gV τ359 23 0 188 = (gV τ 23 0 188) := (show gV τ359 23 0 188 = (gV τ 23 0 188) from gV_put eτ359 (show gV τ354 23 0 188 = (gV τ 23 0 188) from gV_put eτ354 rfl))
        have q375 : (gV τ359 23 0 188).toInt = (gV τ 23 0 188).toInt := congrArg Int32.toInt a374
        have a376 : gV τ359 23 0 2 = (gV τ 23 0 2) := (show gV τ359 23 0 2 = (gV τ 23 0 2) from gV_put eτ359 (show gV τ354 23 0 2 = (gV τ 23 0 2) from gV_put eτ354 rfl))
        have q377 : (gV τ359 23 0 2).toInt = (gV τ 23 0 2).toInt := congrArg Int32.toInt a376
        have a378 : gV τ359 22 0 11 = 0 := (show gV τ359 22 0 11 = 0 from gV_put eτ359 (show gV τ354 22 0 11 = 0 from gV_put eτ354 (gV_self _ _ _ _ _)))
        have q379 : (gV τ359 22 0 11).toInt = 0 := (congrArg Int32.toInt a378).trans kt_0
        have a380 : gV τ359 22 0 16 = 0 := (show gV τ359 22 0 16 = 0 from gV_put eτ359 (gV_self _ _ _ _ _))
        have q381 : (gV τ359 22 0 16).toInt = 0 := (congrArg Int32.toInt a380).trans kt_0
        refine m_callV (n := 0) (ci := 11) (st := []) C (c_X12_nextE l G τ359 T N 0  i360 v362 (by omega)) (by decide) (by decide) rfl rfl rfl q4_231 q4_228 q4_230 q0_28 q1_7 (by decide +kernel) rfl (by decide) (by decide) rfl (Nat.le_of_ble_eq_true rfl) dX12_tower_36 ?_
        rintro _ τ382 ⟨rfl, i383, f384, h388⟩
        have g387 : Fr MS_X12_towerT AS_X12_towerT σ τ382 := Fr.call (f361) f384 (by decide)
        have v389 : TpM τ382 T N := v362.fr f384 (by decide) (by decide) (by simp) (by decide)
        obtain ⟨h390, h392, v391⟩ := h388
        have v393 : CuM T N 0 τ382 := ⟨h390, h392⟩
        clear h390
        have u394 : IV (gV τ382 22 0 11) 0 400 := i383.1 22 0 11
        have a395 : gV τ382 22 0 6 = (gV τ 22 0 6) := (show gV τ382 22 0 6 = (gV τ 22 0 6) from (f384.1 22 0 (6) (by decide) (by decide)).trans a366)
        have q396 : (gV τ382 22 0 6).toInt = (gV τ 22 0 6).toInt := congrArg Int32.toInt a395
        have a397 : gV τ382 22 0 7 = (gV τ 22 0 7) := (show gV τ382 22 0 7 = (gV τ 22 0 7) from (f384.1 22 0 (7) (by decide) (by decide)).trans a368)
        have q398 : (gV τ382 22 0 7).toInt = (gV τ 22 0 7).toInt := congrArg Int32.toInt a397
        have a399 : gV τ382 23 0 150 = (gV τ 23 0 150) := (show gV τ382 23 0 150 = (gV τ 23 0 150) from (f384.1 23 0 (150) (by decide) (by decide)).trans a370)
        have q400 : (gV τ382 23 0 150).toInt = (gV τ 23 0 150).toInt := congrArg Int32.toInt a399
        have a401 : gV τ382 23 0 152 = (gV τ 23 0 152) := (show gV τ382 23 0 152 = (gV τ 23 0 152) from (f384.1 23 0 (152) (by decide) (by decide)).trans a372)
        have q402 : (gV τ382 23 0 152).toInt = (gV τ 23 0 152).toInt := congrArg Int32.toInt a401
        have a403 : gV τ382 23 0 188 = (gV τ 23 0 188) := (show gV τ382 23 0 188 = (gV τ 23 0 188) from (f384.1 23 0 (188) (by decide) (by decide)).trans a374)
        have q404 : (gV τ382 23 0 188).toInt = (gV τ 23 0 188).toInt := congrArg Int32.toInt a403
        have a405 : gV τ382 23 0 2 = (gV τ 23 0 2) := (show gV τ382 23 0 2 = (gV τ 23 0 2) from (f384.1 23 0 (2) (by decide) (by decide)).trans a376)
        have q406 : (gV τ382 23 0 2).toInt = (gV τ 23 0 2).toInt := congrArg Int32.toInt a405
        have a407 : gV τ382 22 0 16 = 0 := (show gV τ382 22 0 16 = 0 from (f384.1 22 0 (16) (by decide) (by decide)).trans a380)
        have q408 : (gV τ382 22 0 16).toInt = 0 := (congrArg Int32.toInt a407).trans kt_0
        show MW p l e _ s m args below meth c _ 2 G 0 0 39 [some (.ref (G.1 22 0)), some (.int y1)] [] τ382
        refine m_aload_n C dX12_tower_39 rfl rfl ?_
        refine m_callV (n := 0) (ci := 11) (st := []) C (c_X12_takeLawE l G τ382 T N 0  i383 v389 v393.1 (by omega) (by omega) v391) (by decide) (by decide) rfl rfl rfl q5_2 q4_239 q5_1 q0_29 q1_7 (by decide +kernel) rfl (by decide) (by decide) rfl (Nat.le_of_ble_eq_true rfl) dX12_tower_40 ?_
        rintro _ τ409 ⟨rfl, i410, f411, h415⟩
        have g414 : Fr MS_X12_towerT AS_X12_towerT σ τ409 := Fr.call (g387) f411 (by decide)
        have v416 : TpM τ409 T N := v389.fr f411 (by decide) (by decide) (by simp) (by decide)
        have u417 : IV (gV τ409 22 0 11) 0 400 := i410.1 22 0 11
        have u418 : IV (gV τ409 23 0 152) 0 7 := i410.1 23 0 152
        have u419 : IV (gV τ409 23 0 188) 0 4 := i410.1 23 0 188
        have u420 : IV (gV τ409 23 0 2) 0 7 := i410.1 23 0 2
        have a421 : gV τ409 22 0 6 = (gV τ 22 0 6) := (show gV τ409 22 0 6 = (gV τ 22 0 6) from (f411.1 22 0 (6) (by decide) (by decide)).trans a395)
        have q422 : (gV τ409 22 0 6).toInt = (gV τ 22 0 6).toInt := congrArg Int32.toInt a421
        have a423 : gV τ409 22 0 7 = (gV τ 22 0 7) := (show gV τ409 22 0 7 = (gV τ 22 0 7) from (f411.1 22 0 (7) (by decide) (by decide)).trans a397)
        have q424 : (gV τ409 22 0 7).toInt = (gV τ 22 0 7).toInt := congrArg Int32.toInt a423
        rcases h415 with ⟨h415_0, h415_1, h415_2, h415_3, h415_4⟩ | ⟨h415_0, h415_1, h415_2, h415_3, h415_4, h415_5, h415_6⟩
        · skip
          have q425 := out_law (T := T) (N := N) (by omega)
          have b426 : IV (gV τ409 22 0 16) 1 3 := ⟨by omega, by omega⟩
          show MW p l e _ s m args below meth c _ 2 G 0 0 43 [some (.ref (G.1 22 0)), some (.int y1)] [] τ409
          refine m_sub (L1 := [some (.ref (G.1 22 0)), none]) ⟨rfl, trivial⟩ ?_
          exact J43 ((2 * (8 - (gV τ409 23 0 152).toInt) + 1 - min 1 (max (gV τ409 22 0 16).toInt (-(gV τ409 22 0 16).toInt))).toNat + 1) τ409 (tE T N (tE T N (tE T N (tE T N 0)))) i410 g414 v416 (Or.inr ⟨by omega, by omega, by omega, by omega, by omega, by omega, by omega, by omega⟩) (by omega) (Nat.lt_succ_self _)
        · skip
          have b427 : IV (gV τ409 22 0 16) 0 0 := ⟨by omega, by omega⟩
          have v428 : CuM T N (tE T N (tE T N (tE T N (tE T N 0)))) τ409 := ⟨h415_3, h415_5⟩
          clear h415_3
          have v429 : Pb τ409 := fun p _ hp => absurd hp (by omega)
          show MW p l e _ s m args below meth c _ 2 G 0 0 43 [some (.ref (G.1 22 0)), some (.int y1)] [] τ409
          refine m_sub (L1 := [some (.ref (G.1 22 0)), none]) ⟨rfl, trivial⟩ ?_
          exact J43 ((2 * (8 - (gV τ409 23 0 152).toInt) + 1 - min 1 (max (gV τ409 22 0 16).toInt (-(gV τ409 22 0 16).toInt))).toNat + 1) τ409 (tE T N (tE T N (tE T N (tE T N 0)))) i410 g414 v416 (Or.inl ⟨by omega, v428, by omega, by omega, by omega, by omega, by omega, v429, h415_6, (by rw [show (gV τ409 23 0 152).toInt.toNat = 0 by omega]; exact PI_.start (by omega))⟩) (by omega) (Nat.lt_succ_self _)
      · have f430 : y1.toInt < 50 := by
          have q : _ := c351
          simp only [ti_nle, ti_nlt, ti_le, ti_lt, ti_eq, ti_ne, Classical.not_not, kt_50] at q
          omega
        have b431 : IV y1 0 49 := ⟨by have q1 := b_y1; have q2 := kc_50; omega, by have q1 := b_y1; have q2 := kc_50; omega⟩
        refine m_aload_n C dX12_tower_8 rfl rfl ?_
        refine g_22_0 C q4_116 dX12_tower_9 ?_
        refine m_sipush (v := 150) C dX12_tower_12 (by decide) ?_
        refine m_iload_n C dX12_tower_15 rfl rfl ?_
        refine m_iadd C dX12_tower_16 ?_
        refine m_topi (fun x432 ex432 => ?_)
        have tx432 : x432.toInt = 150 + y1.toInt := by rw [ex432, ti_addv kc_150 b431 (by decide), kt_150]
        have b433 : IV x432 150 199 := by rw [ex432]; exact iv_add kc_150 b431 (by decide)
        refine m_iconst (v := 0) C dX12_tower_17 (by decide) ?_
        refine as_23 C b433 (by decide) rfl dX12_tower_18 ?_
        refine m_tops (fun τ434 eτ434 => ?_)
        have i435 : Inv τ434 := eτ434 ▸ Inv.putR0 iτ (by omega) kt_0
        have f436 : Fr MS_X12_towerT AS_X12_towerT σ τ434 := eτ434 ▸ Fr.put (fτ) (Or.inr (by decide))
        have v437 : TpM τ434 T N := v_T.put eτ434 (Or.inl (by decide)) (by decide)
        have v438 : τ434.2.2.1 = τ.2.2.1 := by rw [eτ434]; rfl
        obtain ⟨x439, ex439⟩ : ∃ y : Int32, y = y1 + 1 := ⟨_, rfl⟩
        have tx439 : x439.toInt = y1.toInt + 1 := by rw [ex439, ti_addv b431 kc_1 (by decide), kt_1]
        have b440 : IV x439 1 50 := by rw [ex439]; exact iv_add b431 kc_1 (by decide)
        refine m_iinc (v := x439) (L1 := [some (.ref (G.1 22 0)), some (.int x439)]) C dX12_tower_19 rfl (by rw [ex439]; rfl) (by decide) rfl rfl ?_
        refine m_goto (tgt := 2) C dX12_tower_22 (by decide) ?_
        have a441 : gV τ434 22 0 11 = (gV τ 22 0 11) := (show gV τ434 22 0 11 = (gV τ 22 0 11) from gV_put eτ434 rfl)
        have q442 : (gV τ434 22 0 11).toInt = (gV τ 22 0 11).toInt := congrArg Int32.toInt a441
        have a443 : gV τ434 22 0 12 = (gV τ 22 0 12) := (show gV τ434 22 0 12 = (gV τ 22 0 12) from gV_put eτ434 rfl)
        have q444 : (gV τ434 22 0 12).toInt = (gV τ 22 0 12).toInt := congrArg Int32.toInt a443
        have a445 : gV τ434 22 0 16 = (gV τ 22 0 16) := (show gV τ434 22 0 16 = (gV τ 22 0 16) from gV_put eτ434 rfl)
        have q446 : (gV τ434 22 0 16).toInt = (gV τ 22 0 16).toInt := congrArg Int32.toInt a445
        have a447 : gV τ434 22 0 6 = (gV τ 22 0 6) := (show gV τ434 22 0 6 = (gV τ 22 0 6) from gV_put eτ434 rfl)
        have q448 : (gV τ434 22 0 6).toInt = (gV τ 22 0 6).toInt := congrArg Int32.toInt a447
        have a449 : gV τ434 22 0 7 = (gV τ 22 0 7) := (show gV τ434 22 0 7 = (gV τ 22 0 7) from gV_put eτ434 rfl)
        have q450 : (gV τ434 22 0 7).toInt = (gV τ 22 0 7).toInt := congrArg Int32.toInt a449
        have a451 : gV τ434 23 0 2 = (gV τ 23 0 2) := (show gV τ434 23 0 2 = (gV τ 23 0 2) from (gV_putn eτ434 (Or.inr (Or.inr (nat_ne b433 (by decide))))).trans rfl)
        have q452 : (gV τ434 23 0 2).toInt = (gV τ 23 0 2).toInt := congrArg Int32.toInt a451
        exact ih2 τ434 x439 i435 f436 (iv_wk b440 (by decide)) v437 (fun q => zero152 eτ434 kt_0 (by omega)) (fun q => zero188 eτ434 kt_0 (by omega)) (by omega) (by have q := hm2; omega)
  have u453 : IV (gV σ 22 0 11) 0 400 := hI.1 22 0 11
  have u454 : IV (gV σ 22 0 6) 0 400 := hI.1 22 0 6
  have u455 : IV (gV σ 23 0 152) 0 7 := hI.1 23 0 152
  have u456 : IV (gV σ 23 0 188) 0 4 := hI.1 23 0 188
  have u457 : IV (gV σ 23 0 2) 0 7 := hI.1 23 0 2
  have q458 : (gV σ 22 0 6).toInt = (N : Int) := hT.1
  have q459 := hT.2.1
  refine m_iconst (v := 0) C dX12_tower_0 (by decide) ?_
  refine m_istore_n (L1 := [some (.ref (G.1 22 0)), some (.int 0)]) C dX12_tower_1 rfl (by decide) rfl rfl ?_
  exact J2 ((50 - (0 : Int32).toInt).toNat + 1) σ 0 hI Fr.rf (iv_wk kc_0 (by decide)) hT (by omega) (by omega) (by omega) (Nat.lt_succ_self _)
