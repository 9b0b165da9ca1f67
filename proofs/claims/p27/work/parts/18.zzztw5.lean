abbrev MS_X12_takeLawS : List (Nat × Nat) := [(22, 11), (22, 12), (22, 13), (22, 15), (22, 16)]
abbrev AS_X12_takeLawS : List Nat := [23]
set_option maxHeartbeats 4000000 in
set_option maxRecDepth 100000 in
theorem c_X12_takeLawS (l : Launch) (G : Gt) (σ : Sg) (T : Nat → Int) (N : Nat) (i : Nat) (hI : Inv σ) (hT : TpM σ T N) (hcur : ((gV σ 22 0 12).toInt = (tS T i : Int) ∧ (tK T N i ≠ 4 → (gV σ 22 0 11).toInt = (tE T N i : Int)) ∧ (gV σ 22 0 13).toInt = (tK T N i + 4) % 5 ∧ 0 ≤ tK T N i ∧ tK T N i ≤ 4 ∧ (tK T N i = 2 → (gV σ 22 0 15).toInt = tV T i) ∧ (gV σ 22 0 12).toInt ≤ 400)) (hat : (gV σ 22 0 11).toInt ≤ (gV σ 22 0 6).toInt) (hf0 : (gV σ 22 0 16).toInt = 0) (hW : LW T N i σ.2.2.1) : Mc l G yX12_takeLaw cX12_takeLaw 1 none 3 69 0 0 [.ref (G.1 22 0)] σ (PV fun τ => Inv τ ∧ Fr MS_X12_takeLawS AS_X12_takeLawS σ τ ∧ (((lawF T N i ≠ 0 ∧ ((gV τ 22 0 16).toInt = lawF T N i ∧ 1 ≤ (gV τ 22 0 16).toInt ∧ (gV τ 22 0 16).toInt ≤ 3) ∧ ((gV τ 22 0 12).toInt = lawP T N i ∧ 0 ≤ (gV τ 22 0 12).toInt ∧ (gV τ 22 0 12).toInt ≤ 400) ∧ ((gV τ 23 0 152).toInt = (gV σ 23 0 152).toInt ∧ (gV τ 23 0 188).toInt = (gV σ 23 0 188).toInt) ∧ (gV τ 22 0 11).toInt ≤ (gV τ 22 0 6).toInt) ∨ (lawF T N i = 0 ∧ (gV τ 22 0 16).toInt = 0 ∧ ((gV τ 23 0 150).toInt = tV T (tE T N i) ∧ 4 ≤ (gV τ 23 0 150).toInt ∧ (gV τ 23 0 150).toInt ≤ 32) ∧ ((gV τ 22 0 12).toInt = (tS T (tE T N (tE T N (tE T N (tE T N i)))) : Int) ∧ (tK T N (tE T N (tE T N (tE T N (tE T N i)))) ≠ 4 → (gV τ 22 0 11).toInt = (tE T N (tE T N (tE T N (tE T N (tE T N i)))) : Int)) ∧ (gV τ 22 0 13).toInt = (tK T N (tE T N (tE T N (tE T N (tE T N i)))) + 4) % 5 ∧ 0 ≤ tK T N (tE T N (tE T N (tE T N (tE T N i)))) ∧ tK T N (tE T N (tE T N (tE T N (tE T N i)))) ≤ 4 ∧ (tK T N (tE T N (tE T N (tE T N (tE T N i)))) = 2 → (gV τ 22 0 15).toInt = tV T (tE T N (tE T N (tE T N (tE T N i))))) ∧ (gV τ 22 0 12).toInt ≤ 400) ∧ ((gV τ 23 0 152).toInt = (gV σ 23 0 152).toInt ∧ (gV τ 23 0 188).toInt = (gV σ 23 0 188).toInt) ∧ (gV τ 22 0 11).toInt ≤ (gV τ 22 0 6).toInt ∧ LW T N (tE T N (tE T N (tE T N (tE T N i)))) τ.2.2.1)) ∧ SFm σ τ)) := by
  refine Mc.of (L0 := [some (.ref (G.1 22 0))]) (by decide) (Nat.le_of_ble_eq_true rfl) rfl ?_
  intro p e s m args below meth c C hr hlk
  have C : Cx p s m args c cX12_takeLaw 1 "LeanTowerModel" := C
  have k0 : (0 : Int32).toInt = 0 := by decide
  have k1 : (1 : Int32).toInt = 1 := by decide
  have u1 : IV (gV σ 22 0 11) 0 400 := hI.1 22 0 11
  have u2 : IV (gV σ 22 0 6) 0 400 := hI.1 22 0 6
  have u3 : IV (gV σ 23 0 152) 0 7 := hI.1 23 0 152
  have u4 : IV (gV σ 23 0 188) 0 4 := hI.1 23 0 188
  have q5 : (gV σ 22 0 6).toInt = (N : Int) := hT.1
  have q6 := hT.2.1
  have b7 : IV (gV σ 22 0 16) 0 0 := ⟨by omega, by omega⟩
  refine m_aload_n C dX12_takeLaw_0 rfl rfl ?_
  refine g_22_13 C q4_129 dX12_takeLaw_1 ?_
  refine m_eqs (w := (gV σ 22 0 13)) rfl ?_
  refine m_if_ne (tgt := 18) C dX12_takeLaw_4 (by decide) (fun c8 => ?_) (fun c8 => ?_)
  · have f9 : (gV σ 22 0 13).toInt ≠ 0 := by
      have q : _ := c8
      simp only [ti_nle, ti_nlt, ti_le, ti_lt, ti_eq, ti_ne, Classical.not_not, kt_0] at q
      omega
    refine m_aload_n C dX12_takeLaw_18 rfl rfl ?_
    refine m_iconst (v := 1) C dX12_takeLaw_19 (by decide) ?_
    refine p_22_16 C q4_132 dX12_takeLaw_20 ?_
    refine m_tops (fun τ10 eτ10 => ?_)
    have i11 : Inv τ10 := eτ10 ▸ Inv.putF hI (by decide) rfl
    have f12 : Fr MS_X12_takeLawS AS_X12_takeLawS σ τ10 := eτ10 ▸ Fr.put (Fr.rf) (Or.inl (by decide))
    have v13 : TpM τ10 T N := hT.put eτ10 (Or.inr (by decide)) (by decide)
    have v14 : SFm σ τ10 := SFm.rf.putO eτ10 (by decide)
    have v15 : τ10.2.2.1 = σ.2.2.1 := by rw [eτ10]; rfl
    have v16 : LW T N i τ10.2.2.1 := by rw [eτ10]; exact hW
    have q17 : (gV τ10 22 0 11).toInt = (gV σ 22 0 11).toInt := congrArg Int32.toInt (show (gV τ10 22 0 11) = (gV σ 22 0 11) from (show gV τ10 22 0 11 = (gV σ 22 0 11) from gV_put eτ10 rfl))
    have q18 : (gV τ10 22 0 12).toInt = (gV σ 22 0 12).toInt := congrArg Int32.toInt (show (gV τ10 22 0 12) = (gV σ 22 0 12) from (show gV τ10 22 0 12 = (gV σ 22 0 12) from gV_put eτ10 rfl))
    have q19 : (gV τ10 22 0 13).toInt = (gV σ 22 0 13).toInt := congrArg Int32.toInt (show (gV τ10 22 0 13) = (gV σ 22 0 13) from (show gV τ10 22 0 13 = (gV σ 22 0 13) from gV_put eτ10 rfl))
    have q20 : (gV τ10 22 0 15).toInt = (gV σ 22 0 15).toInt := congrArg Int32.toInt (show (gV τ10 22 0 15) = (gV σ 22 0 15) from (show gV τ10 22 0 15 = (gV σ 22 0 15) from gV_put eτ10 rfl))
    have q21 : (gV τ10 22 0 6).toInt = (gV σ 22 0 6).toInt := congrArg Int32.toInt (show (gV τ10 22 0 6) = (gV σ 22 0 6) from (show gV τ10 22 0 6 = (gV σ 22 0 6) from gV_put eτ10 rfl))
    have q22 : (gV τ10 23 0 150).toInt = (gV σ 23 0 150).toInt := congrArg Int32.toInt (show (gV τ10 23 0 150) = (gV σ 23 0 150) from (show gV τ10 23 0 150 = (gV σ 23 0 150) from gV_put eτ10 rfl))
    have q23 : (gV τ10 23 0 152).toInt = (gV σ 23 0 152).toInt := congrArg Int32.toInt (show (gV τ10 23 0 152) = (gV σ 23 0 152) from (show gV τ10 23 0 152 = (gV σ 23 0 152) from gV_put eτ10 rfl))
    have q24 : (gV τ10 23 0 188).toInt = (gV σ 23 0 188).toInt := congrArg Int32.toInt (show (gV τ10 23 0 188) = (gV σ 23 0 188) from (show gV τ10 23 0 188 = (gV σ 23 0 188) from gV_put eτ10 rfl))
    have q25 : (gV τ10 22 0 16).toInt = 1 := (congrArg Int32.toInt (show (gV τ10 22 0 16) = 1 from (show gV τ10 22 0 16 = 1 from gV_put eτ10 (gV_self _ _ _ _ _)))).trans kt_1
    exact m_vret C hr hlk (by decide) (by decide) dX12_takeLaw_23 ⟨rfl, i11, f12, ⟨(by have qd := law_0 T N i (by omega); exact Or.inl ⟨by omega, by omega, by omega, by omega, by omega⟩), v14⟩⟩
  · have f26 : (gV σ 22 0 13).toInt = 0 := by
      have q : _ := c8
      simp only [ti_nle, ti_nlt, ti_le, ti_lt, ti_eq, ti_ne, Classical.not_not, kt_0] at q
      omega
    have b27 : IV (gV σ 22 0 13) 0 0 := ⟨by have q1 := (iv_any (gV σ 22 0 13)); have q2 := kc_0; omega, by have q1 := (iv_any (gV σ 22 0 13)); have q2 := kc_0; omega⟩
    refine m_aload_n C dX12_takeLaw_7 rfl rfl ?_
    refine g_22_14 C q4_130 dX12_takeLaw_8 ?_
    refine m_topl (fun w28 ew28 => ?_)
    have q29 : tK T N i = 1 := by omega
    have q30 : (w28.toInt = 12343 ↔ tW T N i 0 = 1) := by rw [ew28]; exact LW.at0 hW q29
    refine m_ldc2 (v := 12343) C dX12_takeLaw_11 q5_3 ?_
    refine m_lcmp C dX12_takeLaw_14 ?_
    refine m_topi (fun x31 ex31 => ?_)
    have b32 : IV x31 (-1) 1 := by rw [ex31]; rcases lgc w28 12343 with q | q | q <;> omega
    have f33 := lgc w28 12343
    rw [← ex31] at f33
    have f35 := kl_12343
    refine m_if_eq (tgt := 24) C dX12_takeLaw_15 (by decide) (fun c36 => ?_) (fun c36 => ?_)
    · have f37 : x31.toInt = 0 := by
        have q : _ := c36
        simp only [ti_nle, ti_nlt, ti_le, ti_lt, ti_eq, ti_ne, Classical.not_not, kt_0] at q
        omega
      have b38 : IV x31 0 0 := ⟨by have q1 := b32; have q2 := kc_0; omega, by have q1 := b32; have q2 := kc_0; omega⟩
      have q39 : tK T N i = 1 ∧ tW T N i 0 = 1 := by omega
      refine m_aload_n C dX12_takeLaw_24 rfl rfl ?_
      refine m_callV (n := 0) (ci := 11) (st := []) C (c_X12_nextE l G σ T N (tE T N i)  hI hT (by omega)) (by decide) (by decide) rfl rfl rfl q4_231 q4_228 q4_230 q0_28 q1_7 (by decide +kernel) rfl (by decide) (by decide) rfl (Nat.le_of_ble_eq_true rfl) dX12_takeLaw_25 ?_
      rintro _ τ40 ⟨rfl, i41, f42, h46⟩
      have g45 : Fr MS_X12_takeLawS AS_X12_takeLawS σ τ40 := Fr.call (Fr.rf) f42 (by decide)
      clear hcur
      have v47 : TpM τ40 T N := hT.fr f42 (by decide) (by decide) (by simp) (by decide)
      have v48 : SFm σ τ40 := SFm.rf.fr f42 (by simp) (by decide)
      obtain ⟨h49, h51, v50⟩ := h46
      have u52 : IV (gV τ40 22 0 11) 0 400 := i41.1 22 0 11
      have q53 : (gV τ40 22 0 16).toInt = (gV σ 22 0 16).toInt := congrArg Int32.toInt (show (gV τ40 22 0 16) = (gV σ 22 0 16) from (show gV τ40 22 0 16 = (gV σ 22 0 16) from (f42.1 22 0 (16) (by decide) (by decide)).trans rfl))
      have q54 : (gV τ40 22 0 6).toInt = (gV σ 22 0 6).toInt := congrArg Int32.toInt (show (gV τ40 22 0 6) = (gV σ 22 0 6) from (show gV τ40 22 0 6 = (gV σ 22 0 6) from (f42.1 22 0 (6) (by decide) (by decide)).trans rfl))
      have q55 : (gV τ40 23 0 150).toInt = (gV σ 23 0 150).toInt := congrArg Int32.toInt (show (gV τ40 23 0 150) = (gV σ 23 0 150) from (show gV τ40 23 0 150 = (gV σ 23 0 150) from (f42.1 23 0 (150) (by decide) (by decide)).trans rfl))
      have q56 : (gV τ40 23 0 152).toInt = (gV σ 23 0 152).toInt := congrArg Int32.toInt (show (gV τ40 23 0 152) = (gV σ 23 0 152) from (show gV τ40 23 0 152 = (gV σ 23 0 152) from (f42.1 23 0 (152) (by decide) (by decide)).trans rfl))
      have q57 : (gV τ40 23 0 188).toInt = (gV σ 23 0 188).toInt := congrArg Int32.toInt (show (gV τ40 23 0 188) = (gV σ 23 0 188) from (show gV τ40 23 0 188 = (gV σ 23 0 188) from (f42.1 23 0 (188) (by decide) (by decide)).trans rfl))
      show MW p l e _ s m args below meth c _ 1 G 0 0 28 [some (.ref (G.1 22 0))] [] τ40
      refine m_aload_n C dX12_takeLaw_28 rfl rfl ?_
      refine g_22_0 C q4_116 dX12_takeLaw_29 ?_
      refine m_sipush (v := 150) C dX12_takeLaw_32 (by decide) ?_
      refine m_aload_n C dX12_takeLaw_35 rfl rfl ?_
      refine m_iconst (v := 4) C dX12_takeLaw_36 (by decide) ?_
      refine m_bipush (v := 32) C dX12_takeLaw_37 (by decide) ?_
      refine m_iconst (v := 4) C dX12_takeLaw_39 (by decide) ?_
      have q58 := kt_4
      have q59 := kt_32
      have q60 := kt_4
      refine m_callV (n := 3) (ci := 11) (st := [.int 150, .ref (G.1 23 0)]) C (c_X12_takeNumberE l G τ40 T N (tE T N i) (4) (32) (4) i41 v47 (by omega) (by omega)) (by decide) (by decide) rfl rfl rfl q5_7 q5_4 q5_6 q0_30 q1_7 (by decide +kernel) rfl (by decide) (by decide) rfl (Nat.le_of_ble_eq_true rfl) dX12_takeLaw_40 ?_
      rintro _ τ61 ⟨x64, rfl, i62, f63, b65, h67⟩
      have g66 : Fr MS_X12_takeLawS AS_X12_takeLawS σ τ61 := Fr.call (g45) f63 (by decide)
      clear h49
      have v68 : TpM τ61 T N := v47.fr f63 (by decide) (by decide) (by simp) (by decide)
      have v69 : SFm σ τ61 := v48.fr f63 (by simp) (by decide)
      have u70 : IV (gV τ61 22 0 11) 0 400 := i62.1 22 0 11
      have q71 : (gV τ61 22 0 6).toInt = (gV σ 22 0 6).toInt := congrArg Int32.toInt (show (gV τ61 22 0 6) = (gV σ 22 0 6) from (show gV τ61 22 0 6 = (gV σ 22 0 6) from (f63.1 22 0 (6) (by decide) (by decide)).trans (show gV τ40 22 0 6 = (gV σ 22 0 6) from (f42.1 22 0 (6) (by decide) (by decide)).trans rfl)))
      have q72 : (gV τ61 23 0 150).toInt = (gV σ 23 0 150).toInt := congrArg Int32.toInt (show (gV τ61 23 0 150) = (gV σ 23 0 150) from (show gV τ61 23 0 150 = (gV σ 23 0 150) from (f63.1 23 0 (150) (by decide) (by decide)).trans (show gV τ40 23 0 150 = (gV σ 23 0 150) from (f42.1 23 0 (150) (by decide) (by decide)).trans rfl)))
      have q73 : (gV τ61 23 0 152).toInt = (gV σ 23 0 152).toInt := congrArg Int32.toInt (show (gV τ61 23 0 152) = (gV σ 23 0 152) from (show gV τ61 23 0 152 = (gV σ 23 0 152) from (f63.1 23 0 (152) (by decide) (by decide)).trans (show gV τ40 23 0 152 = (gV σ 23 0 152) from (f42.1 23 0 (152) (by decide) (by decide)).trans rfl)))
      have q74 : (gV τ61 23 0 188).toInt = (gV σ 23 0 188).toInt := congrArg Int32.toInt (show (gV τ61 23 0 188) = (gV σ 23 0 188) from (show gV τ61 23 0 188 = (gV σ 23 0 188) from (f63.1 23 0 (188) (by decide) (by decide)).trans (show gV τ40 23 0 188 = (gV σ 23 0 188) from (f42.1 23 0 (188) (by decide) (by decide)).trans rfl)))
      rcases h67 with ⟨h67_0, h67_1, h67_2, h67_3, h67_4⟩ | ⟨h67_0, h67_1, h67_2, h67_3, h67_4, h67_5, h67_6⟩ | ⟨h67_0, h67_1, h67_2, h67_3, h67_4, h67_5, h67_6⟩
      · skip
        have b75 : IV x64 (-1) (-1) := ⟨by omega, by omega⟩
        have b76 : IV (gV τ61 22 0 16) 1 1 := ⟨by omega, by omega⟩
        show MW p l e _ s m args below meth c _ 1 G 0 0 43 [some (.ref (G.1 22 0))] [.int x64, .int 150, .ref (G.1 23 0)] τ61
        refine as_23 C kc_150 (by decide) kn_150 dX12_takeLaw_43 ?_
        refine m_tops (fun τ77 eτ77 => ?_)
        have i78 : Inv τ77 := eτ77 ▸ Inv.putW i62 (by decide)
        have f79 : Fr MS_X12_takeLawS AS_X12_takeLawS σ τ77 := eτ77 ▸ Fr.put (g66) (Or.inr (by decide))
        have v80 : TpM τ77 T N := v68.put eτ77 (Or.inl (by decide)) (by decide)
        have v81 : SFm σ τ77 := v69.put eτ77 (by omega)
        refine m_aload_n C dX12_takeLaw_44 rfl rfl ?_
        refine g_22_0 C q4_116 dX12_takeLaw_45 ?_
        refine m_sipush (v := 151) C dX12_takeLaw_48 (by decide) ?_
        refine m_aload_n C dX12_takeLaw_51 rfl rfl ?_
        refine g_22_16 C q4_132 dX12_takeLaw_52 ?_
        refine m_eqs (w := (gV τ61 22 0 16)) (show gV τ77 22 0 16 = (gV τ61 22 0 16) from gV_put eτ77 rfl) ?_
        refine m_if_ne (tgt := 69) C dX12_takeLaw_55 (by decide) (fun c82 => ?_) (fun c82 => ?_)
        · have f83 : (gV τ61 22 0 16).toInt ≠ 0 := by
            have q : _ := c82
            simp only [ti_nle, ti_nlt, ti_le, ti_lt, ti_eq, ti_ne, Classical.not_not, kt_0] at q
            omega
          refine m_iconst (v := 0) C dX12_takeLaw_69 (by decide) ?_
          refine as_23 C kc_151 (by decide) kn_151 dX12_takeLaw_70 ?_
          refine m_tops (fun τ84 eτ84 => ?_)
          have i85 : Inv τ84 := eτ84 ▸ Inv.putW i78 (by decide)
          have f86 : Fr MS_X12_takeLawS AS_X12_takeLawS σ τ84 := eτ84 ▸ Fr.put (f79) (Or.inr (by decide))
          have v87 : TpM τ84 T N := v80.put eτ84 (Or.inl (by decide)) (by decide)
          have v88 : SFm σ τ84 := v81.put eτ84 (by omega)
          refine m_aload_n C dX12_takeLaw_71 rfl rfl ?_
          have q89 : (gV τ84 22 0 6).toInt = (gV σ 22 0 6).toInt := congrArg Int32.toInt (show (gV τ84 22 0 6) = (gV σ 22 0 6) from (show gV τ84 22 0 6 = (gV σ 22 0 6) from gV_put eτ84 (show gV τ77 22 0 6 = (gV σ 22 0 6) from gV_put eτ77 (show gV τ61 22 0 6 = (gV σ 22 0 6) from (f63.1 22 0 (6) (by decide) (by decide)).trans (show gV τ40 22 0 6 = (gV σ 22 0 6) from (f42.1 22 0 (6) (by decide) (by decide)).trans rfl)))))
          have q90 : (gV τ84 23 0 152).toInt = (gV σ 23 0 152).toInt := congrArg Int32.toInt (show (gV τ84 23 0 152) = (gV σ 23 0 152) from (show gV τ84 23 0 152 = (gV σ 23 0 152) from gV_put eτ84 (show gV τ77 23 0 152 = (gV σ 23 0 152) from gV_put eτ77 (show gV τ61 23 0 152 = (gV σ 23 0 152) from (f63.1 23 0 (152) (by decide) (by decide)).trans (show gV τ40 23 0 152 = (gV σ 23 0 152) from (f42.1 23 0 (152) (by decide) (by decide)).trans rfl)))))
          have q91 : (gV τ84 23 0 188).toInt = (gV σ 23 0 188).toInt := congrArg Int32.toInt (show (gV τ84 23 0 188) = (gV σ 23 0 188) from (show gV τ84 23 0 188 = (gV σ 23 0 188) from gV_put eτ84 (show gV τ77 23 0 188 = (gV σ 23 0 188) from gV_put eτ77 (show gV τ61 23 0 188 = (gV σ 23 0 188) from (f63.1 23 0 (188) (by decide) (by decide)).trans (show gV τ40 23 0 188 = (gV σ 23 0 188) from (f42.1 23 0 (188) (by decide) (by decide)).trans rfl)))))
          have q92 : (gV τ84 22 0 11).toInt = (gV τ61 22 0 11).toInt := congrArg Int32.toInt (show (gV τ84 22 0 11) = (gV τ61 22 0 11) from (show gV τ84 22 0 11 = (gV τ61 22 0 11) from gV_put eτ84 (show gV τ77 22 0 11 = (gV τ61 22 0 11) from gV_put eτ77 rfl)))
          have q93 : (gV τ84 22 0 12).toInt = (gV τ61 22 0 12).toInt := congrArg Int32.toInt (show (gV τ84 22 0 12) = (gV τ61 22 0 12) from (show gV τ84 22 0 12 = (gV τ61 22 0 12) from gV_put eτ84 (show gV τ77 22 0 12 = (gV τ61 22 0 12) from gV_put eτ77 rfl)))
          have q94 : (gV τ84 22 0 13).toInt = (gV τ61 22 0 13).toInt := congrArg Int32.toInt (show (gV τ84 22 0 13) = (gV τ61 22 0 13) from (show gV τ84 22 0 13 = (gV τ61 22 0 13) from gV_put eτ84 (show gV τ77 22 0 13 = (gV τ61 22 0 13) from gV_put eτ77 rfl)))
          have q95 : (gV τ84 22 0 15).toInt = (gV τ61 22 0 15).toInt := congrArg Int32.toInt (show (gV τ84 22 0 15) = (gV τ61 22 0 15) from (show gV τ84 22 0 15 = (gV τ61 22 0 15) from gV_put eτ84 (show gV τ77 22 0 15 = (gV τ61 22 0 15) from gV_put eτ77 rfl)))
          have q96 : (gV τ84 22 0 16).toInt = (gV τ61 22 0 16).toInt := congrArg Int32.toInt (show (gV τ84 22 0 16) = (gV τ61 22 0 16) from (show gV τ84 22 0 16 = (gV τ61 22 0 16) from gV_put eτ84 (show gV τ77 22 0 16 = (gV τ61 22 0 16) from gV_put eτ77 rfl)))
          have q97 : (gV τ84 23 0 150).toInt = x64.toInt := congrArg Int32.toInt (show (gV τ84 23 0 150) = x64 from (show gV τ84 23 0 150 = x64 from gV_put eτ84 (show gV τ77 23 0 150 = x64 from gV_put eτ77 (gV_self _ _ _ _ _))))
          refine m_callV (n := 0) (ci := 11) (st := []) C (c_X12_takeSignE l G τ84 T N (tE T N (tE T N i))  i85 v87 (by omega) (by omega)) (by decide) (by decide) rfl rfl rfl q5_15 q5_12 q5_14 q0_32 q1_7 (by decide +kernel) rfl (by decide) (by decide) rfl (Nat.le_of_ble_eq_true rfl) dX12_takeLaw_72 ?_
          rintro _ τ98 ⟨rfl, i99, f100, h104⟩
          have g103 : Fr MS_X12_takeLawS AS_X12_takeLawS σ τ98 := Fr.call (f86) f100 (by decide)
          have v105 : TpM τ98 T N := v87.fr f100 (by decide) (by decide) (by simp) (by decide)
          have v106 : SFm σ τ98 := v88.fr f100 (by simp) (by decide)
          have u107 : IV (gV τ98 22 0 11) 0 400 := i99.1 22 0 11
          have q108 : (gV τ98 22 0 6).toInt = (gV σ 22 0 6).toInt := congrArg Int32.toInt (show (gV τ98 22 0 6) = (gV σ 22 0 6) from (show gV τ98 22 0 6 = (gV σ 22 0 6) from (f100.1 22 0 (6) (by decide) (by decide)).trans (show gV τ84 22 0 6 = (gV σ 22 0 6) from gV_put eτ84 (show gV τ77 22 0 6 = (gV σ 22 0 6) from gV_put eτ77 (show gV τ61 22 0 6 = (gV σ 22 0 6) from (f63.1 22 0 (6) (by decide) (by decide)).trans (show gV τ40 22 0 6 = (gV σ 22 0 6) from (f42.1 22 0 (6) (by decide) (by decide)).trans rfl))))))
          have q109 : (gV τ98 23 0 152).toInt = (gV σ 23 0 152).toInt := congrArg Int32.toInt (show (gV τ98 23 0 152) = (gV σ 23 0 152) from (show gV τ98 23 0 152 = (gV σ 23 0 152) from (f100.1 23 0 (152) (by decide) (by decide)).trans (show gV τ84 23 0 152 = (gV σ 23 0 152) from gV_put eτ84 (show gV τ77 23 0 152 = (gV σ 23 0 152) from gV_put eτ77 (show gV τ61 23 0 152 = (gV σ 23 0 152) from (f63.1 23 0 (152) (by decide) (by decide)).trans (show gV τ40 23 0 152 = (gV σ 23 0 152) from (f42.1 23 0 (152) (by decide) (by decide)).trans rfl))))))
          have q110 : (gV τ98 23 0 188).toInt = (gV σ 23 0 188).toInt := congrArg Int32.toInt (show (gV τ98 23 0 188) = (gV σ 23 0 188) from (show gV τ98 23 0 188 = (gV σ 23 0 188) from (f100.1 23 0 (188) (by decide) (by decide)).trans (show gV τ84 23 0 188 = (gV σ 23 0 188) from gV_put eτ84 (show gV τ77 23 0 188 = (gV σ 23 0 188) from gV_put eτ77 (show gV τ61 23 0 188 = (gV σ 23 0 188) from (f63.1 23 0 (188) (by decide) (by decide)).trans (show gV τ40 23 0 188 = (gV σ 23 0 188) from (f42.1 23 0 (188) (by decide) (by decide)).trans rfl))))))
          have q111 : (gV τ98 23 0 150).toInt = x64.toInt := congrArg Int32.toInt (show (gV τ98 23 0 150) = x64 from (show gV τ98 23 0 150 = x64 from (f100.1 23 0 (150) (by decide) (by decide)).trans (show gV τ84 23 0 150 = x64 from gV_put eτ84 (show gV τ77 23 0 150 = x64 from gV_put eτ77 (gV_self _ _ _ _ _)))))
          rcases h104 with ⟨h104_0, h104_1, h104_2, h104_3⟩ | ⟨h104_0, h104_1, h104_2, h104_3, h104_4⟩ | ⟨h104_0, h104_1, h104_2, h104_3, h104_4, h104_5⟩
          · skip
            show MW p l e _ s m args below meth c _ 1 G 0 0 75 [some (.ref (G.1 22 0))] [] τ98
            exact m_vret C hr hlk (by decide) (by decide) dX12_takeLaw_75 ⟨rfl, i99, g103, ⟨(by have qd := law_1 T N i (by omega) (by omega); exact Or.inl ⟨by omega, by omega, by omega, by omega, by omega⟩), v106⟩⟩
          · skip
            exfalso; omega
          · skip
            exfalso; omega
        · exfalso
          have q : _ := c82
          simp only [ti_nle, ti_nlt, ti_le, ti_lt, ti_eq, ti_ne, Classical.not_not, kt_0] at q
          have q1 := b76; have q2 := kc_0; omega
      · skip
        have b113 : IV x64 (-1) (-1) := ⟨by omega, by omega⟩
        have b114 : IV (gV τ61 22 0 16) 2 2 := ⟨by omega, by omega⟩
        show MW p l e _ s m args below meth c _ 1 G 0 0 43 [some (.ref (G.1 22 0))] [.int x64, .int 150, .ref (G.1 23 0)] τ61
        refine as_23 C kc_150 (by decide) kn_150 dX12_takeLaw_43 ?_
        refine m_tops (fun τ115 eτ115 => ?_)
        have i116 : Inv τ115 := eτ115 ▸ Inv.putW i62 (by decide)
        have f117 : Fr MS_X12_takeLawS AS_X12_takeLawS σ τ115 := eτ115 ▸ Fr.put (g66) (Or.inr (by decide))
        have v118 : TpM τ115 T N := v68.put eτ115 (Or.inl (by decide)) (by decide)
        have v119 : SFm σ τ115 := v69.put eτ115 (by omega)
        refine m_aload_n C dX12_takeLaw_44 rfl rfl ?_
        refine g_22_0 C q4_116 dX12_takeLaw_45 ?_
        refine m_sipush (v := 151) C dX12_takeLaw_48 (by decide) ?_
        refine m_aload_n C dX12_takeLaw_51 rfl rfl ?_
        refine g_22_16 C q4_132 dX12_takeLaw_52 ?_
        refine m_eqs (w := (gV τ61 22 0 16)) (show gV τ115 22 0 16 = (gV τ61 22 0 16) from gV_put eτ115 rfl) ?_
        refine m_if_ne (tgt := 69) C dX12_takeLaw_55 (by decide) (fun c120 => ?_) (fun c120 => ?_)
        · have f121 : (gV τ61 22 0 16).toInt ≠ 0 := by
            have q : _ := c120
            simp only [ti_nle, ti_nlt, ti_le, ti_lt, ti_eq, ti_ne, Classical.not_not, kt_0] at q
            omega
          refine m_iconst (v := 0) C dX12_takeLaw_69 (by decide) ?_
          refine as_23 C kc_151 (by decide) kn_151 dX12_takeLaw_70 ?_
          refine m_tops (fun τ122 eτ122 => ?_)
          have i123 : Inv τ122 := eτ122 ▸ Inv.putW i116 (by decide)
          have f124 : Fr MS_X12_takeLawS AS_X12_takeLawS σ τ122 := eτ122 ▸ Fr.put (f117) (Or.inr (by decide))
          have v125 : TpM τ122 T N := v118.put eτ122 (Or.inl (by decide)) (by decide)
          have v126 : SFm σ τ122 := v119.put eτ122 (by omega)
          refine m_aload_n C dX12_takeLaw_71 rfl rfl ?_
          have q127 : (gV τ122 22 0 6).toInt = (gV σ 22 0 6).toInt := congrArg Int32.toInt (show (gV τ122 22 0 6) = (gV σ 22 0 6) from (show gV τ122 22 0 6 = (gV σ 22 0 6) from gV_put eτ122 (show gV τ115 22 0 6 = (gV σ 22 0 6) from gV_put eτ115 (show gV τ61 22 0 6 = (gV σ 22 0 6) from (f63.1 22 0 (6) (by decide) (by decide)).trans (show gV τ40 22 0 6 = (gV σ 22 0 6) from (f42.1 22 0 (6) (by decide) (by decide)).trans rfl)))))
          have q128 : (gV τ122 23 0 152).toInt = (gV σ 23 0 152).toInt := congrArg Int32.toInt (show (gV τ122 23 0 152) = (gV σ 23 0 152) from (show gV τ122 23 0 152 = (gV σ 23 0 152) from gV_put eτ122 (show gV τ115 23 0 152 = (gV σ 23 0 152) from gV_put eτ115 (show gV τ61 23 0 152 = (gV σ 23 0 152) from (f63.1 23 0 (152) (by decide) (by decide)).trans (show gV τ40 23 0 152 = (gV σ 23 0 152) from (f42.1 23 0 (152) (by decide) (by decide)).trans rfl)))))
          have q129 : (gV τ122 23 0 188).toInt = (gV σ 23 0 188).toInt := congrArg Int32.toInt (show (gV τ122 23 0 188) = (gV σ 23 0 188) from (show gV τ122 23 0 188 = (gV σ 23 0 188) from gV_put eτ122 (show gV τ115 23 0 188 = (gV σ 23 0 188) from gV_put eτ115 (show gV τ61 23 0 188 = (gV σ 23 0 188) from (f63.1 23 0 (188) (by decide) (by decide)).trans (show gV τ40 23 0 188 = (gV σ 23 0 188) from (f42.1 23 0 (188) (by decide) (by decide)).trans rfl)))))
          have q130 : (gV τ122 22 0 11).toInt = (gV τ61 22 0 11).toInt := congrArg Int32.toInt (show (gV τ122 22 0 11) = (gV τ61 22 0 11) from (show gV τ122 22 0 11 = (gV τ61 22 0 11) from gV_put eτ122 (show gV τ115 22 0 11 = (gV τ61 22 0 11) from gV_put eτ115 rfl)))
          have q131 : (gV τ122 22 0 12).toInt = (gV τ61 22 0 12).toInt := congrArg Int32.toInt (show (gV τ122 22 0 12) = (gV τ61 22 0 12) from (show gV τ122 22 0 12 = (gV τ61 22 0 12) from gV_put eτ122 (show gV τ115 22 0 12 = (gV τ61 22 0 12) from gV_put eτ115 rfl)))
          have q132 : (gV τ122 22 0 13).toInt = (gV τ61 22 0 13).toInt := congrArg Int32.toInt (show (gV τ122 22 0 13) = (gV τ61 22 0 13) from (show gV τ122 22 0 13 = (gV τ61 22 0 13) from gV_put eτ122 (show gV τ115 22 0 13 = (gV τ61 22 0 13) from gV_put eτ115 rfl)))
          have q133 : (gV τ122 22 0 15).toInt = (gV τ61 22 0 15).toInt := congrArg Int32.toInt (show (gV τ122 22 0 15) = (gV τ61 22 0 15) from (show gV τ122 22 0 15 = (gV τ61 22 0 15) from gV_put eτ122 (show gV τ115 22 0 15 = (gV τ61 22 0 15) from gV_put eτ115 rfl)))
          have q134 : (gV τ122 22 0 16).toInt = (gV τ61 22 0 16).toInt := congrArg Int32.toInt (show (gV τ122 22 0 16) = (gV τ61 22 0 16) from (show gV τ122 22 0 16 = (gV τ61 22 0 16) from gV_put eτ122 (show gV τ115 22 0 16 = (gV τ61 22 0 16) from gV_put eτ115 rfl)))
          have q135 : (gV τ122 23 0 150).toInt = x64.toInt := congrArg Int32.toInt (show (gV τ122 23 0 150) = x64 from (show gV τ122 23 0 150 = x64 from gV_put eτ122 (show gV τ115 23 0 150 = x64 from gV_put eτ115 (gV_self _ _ _ _ _))))
          refine m_callV (n := 0) (ci := 11) (st := []) C (c_X12_takeSignE l G τ122 T N (tE T N (tE T N i))  i123 v125 (by omega) (by omega)) (by decide) (by decide) rfl rfl rfl q5_15 q5_12 q5_14 q0_32 q1_7 (by decide +kernel) rfl (by decide) (by decide) rfl (Nat.le_of_ble_eq_true rfl) dX12_takeLaw_72 ?_
          rintro _ τ136 ⟨rfl, i137, f138, h142⟩
          have g141 : Fr MS_X12_takeLawS AS_X12_takeLawS σ τ136 := Fr.call (f124) f138 (by decide)
          have v143 : TpM τ136 T N := v125.fr f138 (by decide) (by decide) (by simp) (by decide)
          have v144 : SFm σ τ136 := v126.fr f138 (by simp) (by decide)
          have u145 : IV (gV τ136 22 0 11) 0 400 := i137.1 22 0 11
          have q146 : (gV τ136 22 0 6).toInt = (gV σ 22 0 6).toInt := congrArg Int32.toInt (show (gV τ136 22 0 6) = (gV σ 22 0 6) from (show gV τ136 22 0 6 = (gV σ 22 0 6) from (f138.1 22 0 (6) (by decide) (by decide)).trans (show gV τ122 22 0 6 = (gV σ 22 0 6) from gV_put eτ122 (show gV τ115 22 0 6 = (gV σ 22 0 6) from gV_put eτ115 (show gV τ61 22 0 6 = (gV σ 22 0 6) from (f63.1 22 0 (6) (by decide) (by decide)).trans (show gV τ40 22 0 6 = (gV σ 22 0 6) from (f42.1 22 0 (6) (by decide) (by decide)).trans rfl))))))
          have q147 : (gV τ136 23 0 152).toInt = (gV σ 23 0 152).toInt := congrArg Int32.toInt (show (gV τ136 23 0 152) = (gV σ 23 0 152) from (show gV τ136 23 0 152 = (gV σ 23 0 152) from (f138.1 23 0 (152) (by decide) (by decide)).trans (show gV τ122 23 0 152 = (gV σ 23 0 152) from gV_put eτ122 (show gV τ115 23 0 152 = (gV σ 23 0 152) from gV_put eτ115 (show gV τ61 23 0 152 = (gV σ 23 0 152) from (f63.1 23 0 (152) (by decide) (by decide)).trans (show gV τ40 23 0 152 = (gV σ 23 0 152) from (f42.1 23 0 (152) (by decide) (by decide)).trans rfl))))))
          have q148 : (gV τ136 23 0 188).toInt = (gV σ 23 0 188).toInt := congrArg Int32.toInt (show (gV τ136 23 0 188) = (gV σ 23 0 188) from (show gV τ136 23 0 188 = (gV σ 23 0 188) from (f138.1 23 0 (188) (by decide) (by decide)).trans (show gV τ122 23 0 188 = (gV σ 23 0 188) from gV_put eτ122 (show gV τ115 23 0 188 = (gV σ 23 0 188) from gV_put eτ115 (show gV τ61 23 0 188 = (gV σ 23 0 188) from (f63.1 23 0 (188) (by decide) (by decide)).trans (show gV τ40 23 0 188 = (gV σ 23 0 188) from (f42.1 23 0 (188) (by decide) (by decide)).trans rfl))))))
          have q149 : (gV τ136 23 0 150).toInt = x64.toInt := congrArg Int32.toInt (show (gV τ136 23 0 150) = x64 from (show gV τ136 23 0 150 = x64 from (f138.1 23 0 (150) (by decide) (by decide)).trans (show gV τ122 23 0 150 = x64 from gV_put eτ122 (show gV τ115 23 0 150 = x64 from gV_put eτ115 (gV_self _ _ _ _ _)))))
          rcases h142 with ⟨h142_0, h142_1, h142_2, h142_3⟩ | ⟨h142_0, h142_1, h142_2, h142_3, h142_4⟩ | ⟨h142_0, h142_1, h142_2, h142_3, h142_4, h142_5⟩
          · skip
            show MW p l e _ s m args below meth c _ 1 G 0 0 75 [some (.ref (G.1 22 0))] [] τ136
            exact m_vret C hr hlk (by decide) (by decide) dX12_takeLaw_75 ⟨rfl, i137, g141, ⟨(by have qd := law_2 T N i (by omega) (by omega) (by omega); exact Or.inl ⟨by omega, by omega, by omega, by omega, by omega⟩), v144⟩⟩
          · skip
            exfalso; omega
          · skip
            exfalso; omega
        · exfalso
          have q : _ := c120
          simp only [ti_nle, ti_nlt, ti_le, ti_lt, ti_eq, ti_ne, Classical.not_not, kt_0] at q
          have q1 := b114; have q2 := kc_0; omega
      · skip
        have q151 : 4 ≤ tV T (tE T N i) ∧ tV T (tE T N i) ≤ 32 := by omega
        clear h67_1
        have b152 : IV (gV τ61 22 0 16) 0 0 := ⟨by omega, by omega⟩
        show MW p l e _ s m args below meth c _ 1 G 0 0 43 [some (.ref (G.1 22 0))] [.int x64, .int 150, .ref (G.1 23 0)] τ61
        refine as_23 C kc_150 (by decide) kn_150 dX12_takeLaw_43 ?_
        refine m_tops (fun τ153 eτ153 => ?_)
        have i154 : Inv τ153 := eτ153 ▸ Inv.putW i62 (by decide)
        have f155 : Fr MS_X12_takeLawS AS_X12_takeLawS σ τ153 := eτ153 ▸ Fr.put (g66) (Or.inr (by decide))
        have v156 : TpM τ153 T N := v68.put eτ153 (Or.inl (by decide)) (by decide)
        have v157 : SFm σ τ153 := v69.put eτ153 (by omega)
        have v158 : LW T N (tE T N (tE T N i)) τ153.2.2.1 := by rw [eτ153]; exact h67_6
        refine m_aload_n C dX12_takeLaw_44 rfl rfl ?_
        refine g_22_0 C q4_116 dX12_takeLaw_45 ?_
        refine m_sipush (v := 151) C dX12_takeLaw_48 (by decide) ?_
        refine m_aload_n C dX12_takeLaw_51 rfl rfl ?_
        refine g_22_16 C q4_132 dX12_takeLaw_52 ?_
        refine m_eqs (w := (gV τ61 22 0 16)) (show gV τ153 22 0 16 = (gV τ61 22 0 16) from gV_put eτ153 rfl) ?_
        refine m_if_ne (tgt := 69) C dX12_takeLaw_55 (by decide) (fun c159 => ?_) (fun c159 => ?_)
        · exfalso
          have q : _ := c159
          simp only [ti_nle, ti_nlt, ti_le, ti_lt, ti_eq, ti_ne, Classical.not_not, kt_0] at q
          have q1 := b152; have q2 := kc_0; omega
        · have f161 : (gV τ61 22 0 16).toInt = 0 := by
            have q : _ := c159
            simp only [ti_nle, ti_nlt, ti_le, ti_lt, ti_eq, ti_ne, Classical.not_not, kt_0] at q
            omega
          refine m_aload_n C dX12_takeLaw_58 rfl rfl ?_
          refine m_iconst (v := 1) C dX12_takeLaw_59 (by decide) ?_
          refine m_bipush (v := 99) C dX12_takeLaw_60 (by decide) ?_
          refine m_iconst (v := 1) C dX12_takeLaw_62 (by decide) ?_
          have q162 : (gV τ153 22 0 6).toInt = (gV σ 22 0 6).toInt := congrArg Int32.toInt (show (gV τ153 22 0 6) = (gV σ 22 0 6) from (show gV τ153 22 0 6 = (gV σ 22 0 6) from gV_put eτ153 (show gV τ61 22 0 6 = (gV σ 22 0 6) from (f63.1 22 0 (6) (by decide) (by decide)).trans (show gV τ40 22 0 6 = (gV σ 22 0 6) from (f42.1 22 0 (6) (by decide) (by decide)).trans rfl))))
          have q163 : (gV τ153 23 0 152).toInt = (gV σ 23 0 152).toInt := congrArg Int32.toInt (show (gV τ153 23 0 152) = (gV σ 23 0 152) from (show gV τ153 23 0 152 = (gV σ 23 0 152) from gV_put eτ153 (show gV τ61 23 0 152 = (gV σ 23 0 152) from (f63.1 23 0 (152) (by decide) (by decide)).trans (show gV τ40 23 0 152 = (gV σ 23 0 152) from (f42.1 23 0 (152) (by decide) (by decide)).trans rfl))))
          have q164 : (gV τ153 23 0 188).toInt = (gV σ 23 0 188).toInt := congrArg Int32.toInt (show (gV τ153 23 0 188) = (gV σ 23 0 188) from (show gV τ153 23 0 188 = (gV σ 23 0 188) from gV_put eτ153 (show gV τ61 23 0 188 = (gV σ 23 0 188) from (f63.1 23 0 (188) (by decide) (by decide)).trans (show gV τ40 23 0 188 = (gV σ 23 0 188) from (f42.1 23 0 (188) (by decide) (by decide)).trans rfl))))
          have q165 : (gV τ153 22 0 11).toInt = (gV τ61 22 0 11).toInt := congrArg Int32.toInt (show (gV τ153 22 0 11) = (gV τ61 22 0 11) from (show gV τ153 22 0 11 = (gV τ61 22 0 11) from gV_put eτ153 rfl))
          have q166 : (gV τ153 22 0 12).toInt = (gV τ61 22 0 12).toInt := congrArg Int32.toInt (show (gV τ153 22 0 12) = (gV τ61 22 0 12) from (show gV τ153 22 0 12 = (gV τ61 22 0 12) from gV_put eτ153 rfl))
          have q167 : (gV τ153 22 0 13).toInt = (gV τ61 22 0 13).toInt := congrArg Int32.toInt (show (gV τ153 22 0 13) = (gV τ61 22 0 13) from (show gV τ153 22 0 13 = (gV τ61 22 0 13) from gV_put eτ153 rfl))
          have q168 : (gV τ153 22 0 15).toInt = (gV τ61 22 0 15).toInt := congrArg Int32.toInt (show (gV τ153 22 0 15) = (gV τ61 22 0 15) from (show gV τ153 22 0 15 = (gV τ61 22 0 15) from gV_put eτ153 rfl))
          have q169 : (gV τ153 22 0 16).toInt = (gV τ61 22 0 16).toInt := congrArg Int32.toInt (show (gV τ153 22 0 16) = (gV τ61 22 0 16) from (show gV τ153 22 0 16 = (gV τ61 22 0 16) from gV_put eτ153 rfl))
          have q170 : (gV τ153 23 0 150).toInt = x64.toInt := congrArg Int32.toInt (show (gV τ153 23 0 150) = x64 from (show gV τ153 23 0 150 = x64 from gV_put eτ153 (gV_self _ _ _ _ _)))
          have q171 := kt_1
          have q172 := kt_99
          have q173 := kt_1
          refine m_callV (n := 3) (ci := 11) (st := [.int 151, .ref (G.1 23 0)]) C (c_X12_takeNumberE l G τ153 T N (tE T N (tE T N i)) (1) (99) (1) i154 v156 (by omega) (by omega)) (by decide) (by decide) rfl rfl rfl q5_7 q5_4 q5_6 q0_30 q1_7 (by decide +kernel) rfl (by decide) (by decide) rfl (Nat.le_of_ble_eq_true rfl) dX12_takeLaw_63 ?_
          rintro _ τ174 ⟨x177, rfl, i175, f176, b178, h180⟩
          have g179 : Fr MS_X12_takeLawS AS_X12_takeLawS σ τ174 := Fr.call (f155) f176 (by decide)
          clear h67_4
          have v181 : TpM τ174 T N := v156.fr f176 (by decide) (by decide) (by simp) (by decide)
          have v182 : SFm σ τ174 := v157.fr f176 (by simp) (by decide)
          have u183 : IV (gV τ174 22 0 11) 0 400 := i175.1 22 0 11
          have q184 : (gV τ174 22 0 6).toInt = (gV σ 22 0 6).toInt := congrArg Int32.toInt (show (gV τ174 22 0 6) = (gV σ 22 0 6) from (show gV τ174 22 0 6 = (gV σ 22 0 6) from (f176.1 22 0 (6) (by decide) (by decide)).trans (show gV τ153 22 0 6 = (gV σ 22 0 6) from gV_put eτ153 (show gV τ61 22 0 6 = (gV σ 22 0 6) from (f63.1 22 0 (6) (by decide) (by decide)).trans (show gV τ40 22 0 6 = (gV σ 22 0 6) from (f42.1 22 0 (6) (by decide) (by decide)).trans rfl)))))
          have q185 : (gV τ174 23 0 152).toInt = (gV σ 23 0 152).toInt := congrArg Int32.toInt (show (gV τ174 23 0 152) = (gV σ 23 0 152) from (show gV τ174 23 0 152 = (gV σ 23 0 152) from (f176.1 23 0 (152) (by decide) (by decide)).trans (show gV τ153 23 0 152 = (gV σ 23 0 152) from gV_put eτ153 (show gV τ61 23 0 152 = (gV σ 23 0 152) from (f63.1 23 0 (152) (by decide) (by decide)).trans (show gV τ40 23 0 152 = (gV σ 23 0 152) from (f42.1 23 0 (152) (by decide) (by decide)).trans rfl)))))
          have q186 : (gV τ174 23 0 188).toInt = (gV σ 23 0 188).toInt := congrArg Int32.toInt (show (gV τ174 23 0 188) = (gV σ 23 0 188) from (show gV τ174 23 0 188 = (gV σ 23 0 188) from (f176.1 23 0 (188) (by decide) (by decide)).trans (show gV τ153 23 0 188 = (gV σ 23 0 188) from gV_put eτ153 (show gV τ61 23 0 188 = (gV σ 23 0 188) from (f63.1 23 0 (188) (by decide) (by decide)).trans (show gV τ40 23 0 188 = (gV σ 23 0 188) from (f42.1 23 0 (188) (by decide) (by decide)).trans rfl)))))
          have q187 : (gV τ174 23 0 150).toInt = x64.toInt := congrArg Int32.toInt (show (gV τ174 23 0 150) = x64 from (show gV τ174 23 0 150 = x64 from (f176.1 23 0 (150) (by decide) (by decide)).trans (show gV τ153 23 0 150 = x64 from gV_put eτ153 (gV_self _ _ _ _ _))))
          rcases h180 with ⟨h180_0, h180_1, h180_2, h180_3, h180_4⟩ | ⟨h180_0, h180_1, h180_2, h180_3, h180_4, h180_5, h180_6⟩ | ⟨h180_0, h180_1, h180_2, h180_3, h180_4, h180_5, h180_6⟩
          · skip
            have b188 : IV x177 (-1) (-1) := ⟨by omega, by omega⟩
            have b189 : IV (gV τ174 22 0 16) 1 1 := ⟨by omega, by omega⟩
            show MW p l e _ s m args below meth c _ 1 G 0 0 66 [some (.ref (G.1 22 0))] [.int x177, .int 151, .ref (G.1 23 0)] τ174
            refine m_goto (tgt := 70) C dX12_takeLaw_66 (by decide) ?_
            refine as_23 C kc_151 (by decide) kn_151 dX12_takeLaw_70 ?_
            refine m_tops (fun τ190 eτ190 => ?_)
            have i191 : Inv τ190 := eτ190 ▸ Inv.putW i175 (by decide)
            have f192 : Fr MS_X12_takeLawS AS_X12_takeLawS σ τ190 := eτ190 ▸ Fr.put (g179) (Or.inr (by decide))
            have v193 : TpM τ190 T N := v181.put eτ190 (Or.inl (by decide)) (by decide)
            have v194 : SFm σ τ190 := v182.put eτ190 (by omega)
            refine m_aload_n C dX12_takeLaw_71 rfl rfl ?_
            have q195 : (gV τ190 22 0 6).toInt = (gV σ 22 0 6).toInt := congrArg Int32.toInt (show (gV τ190 22 0 6) = (gV σ 22 0 6) from (show gV τ190 22 0 6 = (gV σ 22 0 6) from gV_put eτ190 (show gV τ174 22 0 6 = (gV σ 22 0 6) from (f176.1 22 0 (6) (by decide) (by decide)).trans (show gV τ153 22 0 6 = (gV σ 22 0 6) from gV_put eτ153 (show gV τ61 22 0 6 = (gV σ 22 0 6) from (f63.1 22 0 (6) (by decide) (by decide)).trans (show gV τ40 22 0 6 = (gV σ 22 0 6) from (f42.1 22 0 (6) (by decide) (by decide)).trans rfl))))))
            have q196 : (gV τ190 23 0 152).toInt = (gV σ 23 0 152).toInt := congrArg Int32.toInt (show (gV τ190 23 0 152) = (gV σ 23 0 152) from (show gV τ190 23 0 152 = (gV σ 23 0 152) from gV_put eτ190 (show gV τ174 23 0 152 = (gV σ 23 0 152) from (f176.1 23 0 (152) (by decide) (by decide)).trans (show gV τ153 23 0 152 = (gV σ 23 0 152) from gV_put eτ153 (show gV τ61 23 0 152 = (gV σ 23 0 152) from (f63.1 23 0 (152) (by decide) (by decide)).trans (show gV τ40 23 0 152 = (gV σ 23 0 152) from (f42.1 23 0 (152) (by decide) (by decide)).trans rfl))))))
            have q197 : (gV τ190 23 0 188).toInt = (gV σ 23 0 188).toInt := congrArg Int32.toInt (show (gV τ190 23 0 188) = (gV σ 23 0 188) from (show gV τ190 23 0 188 = (gV σ 23 0 188) from gV_put eτ190 (show gV τ174 23 0 188 = (gV σ 23 0 188) from (f176.1 23 0 (188) (by decide) (by decide)).trans (show gV τ153 23 0 188 = (gV σ 23 0 188) from gV_put eτ153 (show gV τ61 23 0 188 = (gV σ 23 0 188) from (f63.1 23 0 (188) (by decide) (by decide)).trans (show gV τ40 23 0 188 = (gV σ 23 0 188) from (f42.1 23 0 (188) (by decide) (by decide)).trans rfl))))))
            have q198 : (gV τ190 23 0 150).toInt = x64.toInt := congrArg Int32.toInt (show (gV τ190 23 0 150) = x64 from (show gV τ190 23 0 150 = x64 from gV_put eτ190 (show gV τ174 23 0 150 = x64 from (f176.1 23 0 (150) (by decide) (by decide)).trans (show gV τ153 23 0 150 = x64 from gV_put eτ153 (gV_self _ _ _ _ _)))))
            have q199 : (gV τ190 22 0 11).toInt = (gV τ174 22 0 11).toInt := congrArg Int32.toInt (show (gV τ190 22 0 11) = (gV τ174 22 0 11) from (show gV τ190 22 0 11 = (gV τ174 22 0 11) from gV_put eτ190 rfl))
            have q200 : (gV τ190 22 0 12).toInt = (gV τ174 22 0 12).toInt := congrArg Int32.toInt (show (gV τ190 22 0 12) = (gV τ174 22 0 12) from (show gV τ190 22 0 12 = (gV τ174 22 0 12) from gV_put eτ190 rfl))
            have q201 : (gV τ190 22 0 13).toInt = (gV τ174 22 0 13).toInt := congrArg Int32.toInt (show (gV τ190 22 0 13) = (gV τ174 22 0 13) from (show gV τ190 22 0 13 = (gV τ174 22 0 13) from gV_put eτ190 rfl))
            have q202 : (gV τ190 22 0 15).toInt = (gV τ174 22 0 15).toInt := congrArg Int32.toInt (show (gV τ190 22 0 15) = (gV τ174 22 0 15) from (show gV τ190 22 0 15 = (gV τ174 22 0 15) from gV_put eτ190 rfl))
            have q203 : (gV τ190 22 0 16).toInt = (gV τ174 22 0 16).toInt := congrArg Int32.toInt (show (gV τ190 22 0 16) = (gV τ174 22 0 16) from (show gV τ190 22 0 16 = (gV τ174 22 0 16) from gV_put eτ190 rfl))
            refine m_callV (n := 0) (ci := 11) (st := []) C (c_X12_takeSignE l G τ190 T N (tE T N (tE T N (tE T N i)))  i191 v193 (by omega) (by omega)) (by decide) (by decide) rfl rfl rfl q5_15 q5_12 q5_14 q0_32 q1_7 (by decide +kernel) rfl (by decide) (by decide) rfl (Nat.le_of_ble_eq_true rfl) dX12_takeLaw_72 ?_
            rintro _ τ204 ⟨rfl, i205, f206, h210⟩
            have g209 : Fr MS_X12_takeLawS AS_X12_takeLawS σ τ204 := Fr.call (f192) f206 (by decide)
            have v211 : TpM τ204 T N := v193.fr f206 (by decide) (by decide) (by simp) (by decide)
            have v212 : SFm σ τ204 := v194.fr f206 (by simp) (by decide)
            have u213 : IV (gV τ204 22 0 11) 0 400 := i205.1 22 0 11
            have q214 : (gV τ204 22 0 6).toInt = (gV σ 22 0 6).toInt := congrArg Int32.toInt (show (gV τ204 22 0 6) = (gV σ 22 0 6) from (show gV τ204 22 0 6 = (gV σ 22 0 6) from (f206.1 22 0 (6) (by decide) (by decide)).trans (show gV τ190 22 0 6 = (gV σ 22 0 6) from gV_put eτ190 (show gV τ174 22 0 6 = (gV σ 22 0 6) from (f176.1 22 0 (6) (by decide) (by decide)).trans (show gV τ153 22 0 6 = (gV σ 22 0 6) from gV_put eτ153 (show gV τ61 22 0 6 = (gV σ 22 0 6) from (f63.1 22 0 (6) (by decide) (by decide)).trans (show gV τ40 22 0 6 = (gV σ 22 0 6) from (f42.1 22 0 (6) (by decide) (by decide)).trans rfl)))))))
            have q215 : (gV τ204 23 0 152).toInt = (gV σ 23 0 152).toInt := congrArg Int32.toInt (show (gV τ204 23 0 152) = (gV σ 23 0 152) from (show gV τ204 23 0 152 = (gV σ 23 0 152) from (f206.1 23 0 (152) (by decide) (by decide)).trans (show gV τ190 23 0 152 = (gV σ 23 0 152) from gV_put eτ190 (show gV τ174 23 0 152 = (gV σ 23 0 152) from (f176.1 23 0 (152) (by decide) (by decide)).trans (show gV τ153 23 0 152 = (gV σ 23 0 152) from gV_put eτ153 (show gV τ61 23 0 152 = (gV σ 23 0 152) from (f63.1 23 0 (152) (by decide) (by decide)).trans (show gV τ40 23 0 152 = (gV σ 23 0 152) from (f42.1 23 0 (152) (by decide) (by decide)).trans rfl)))))))
            have q216 : (gV τ204 23 0 188).toInt = (gV σ 23 0 188).toInt := congrArg Int32.toInt (show (gV τ204 23 0 188) = (gV σ 23 0 188) from (show gV τ204 23 0 188 = (gV σ 23 0 188) from (f206.1 23 0 (188) (by decide) (by decide)).trans (show gV τ190 23 0 188 = (gV σ 23 0 188) from gV_put eτ190 (show gV τ174 23 0 188 = (gV σ 23 0 188) from (f176.1 23 0 (188) (by decide) (by decide)).trans (show gV τ153 23 0 188 = (gV σ 23 0 188) from gV_put eτ153 (show gV τ61 23 0 188 = (gV σ 23 0 188) from (f63.1 23 0 (188) (by decide) (by decide)).trans (show gV τ40 23 0 188 = (gV σ 23 0 188) from (f42.1 23 0 (188) (by decide) (by decide)).trans rfl)))))))
            have q217 : (gV τ204 23 0 150).toInt = x64.toInt := congrArg Int32.toInt (show (gV τ204 23 0 150) = x64 from (show gV τ204 23 0 150 = x64 from (f206.1 23 0 (150) (by decide) (by decide)).trans (show gV τ190 23 0 150 = x64 from gV_put eτ190 (show gV τ174 23 0 150 = x64 from (f176.1 23 0 (150) (by decide) (by decide)).trans (show gV τ153 23 0 150 = x64 from gV_put eτ153 (gV_self _ _ _ _ _))))))
            rcases h210 with ⟨h210_0, h210_1, h210_2, h210_3⟩ | ⟨h210_0, h210_1, h210_2, h210_3, h210_4⟩ | ⟨h210_0, h210_1, h210_2, h210_3, h210_4, h210_5⟩
            · skip
              show MW p l e _ s m args below meth c _ 1 G 0 0 75 [some (.ref (G.1 22 0))] [] τ204
              exact m_vret C hr hlk (by decide) (by decide) dX12_takeLaw_75 ⟨rfl, i205, g209, ⟨(by have qd := law_3 T N i (by omega) (by omega) (by omega) (by omega); exact Or.inl ⟨by omega, by omega, by omega, by omega, by omega⟩), v212⟩⟩
            · skip
              exfalso; omega
            · skip
              exfalso; omega
          · skip
            have b218 : IV x177 (-1) (-1) := ⟨by omega, by omega⟩
            have b219 : IV (gV τ174 22 0 16) 2 2 := ⟨by omega, by omega⟩
            show MW p l e _ s m args below meth c _ 1 G 0 0 66 [some (.ref (G.1 22 0))] [.int x177, .int 151, .ref (G.1 23 0)] τ174
            refine m_goto (tgt := 70) C dX12_takeLaw_66 (by decide) ?_
            refine as_23 C kc_151 (by decide) kn_151 dX12_takeLaw_70 ?_
            refine m_tops (fun τ220 eτ220 => ?_)
            have i221 : Inv τ220 := eτ220 ▸ Inv.putW i175 (by decide)
            have f222 : Fr MS_X12_takeLawS AS_X12_takeLawS σ τ220 := eτ220 ▸ Fr.put (g179) (Or.inr (by decide))
            have v223 : TpM τ220 T N := v181.put eτ220 (Or.inl (by decide)) (by decide)
            have v224 : SFm σ τ220 := v182.put eτ220 (by omega)
            refine m_aload_n C dX12_takeLaw_71 rfl rfl ?_
            have q225 : (gV τ220 22 0 6).toInt = (gV σ 22 0 6).toInt := congrArg Int32.toInt (show (gV τ220 22 0 6) = (gV σ 22 0 6) from (show gV τ220 22 0 6 = (gV σ 22 0 6) from gV_put eτ220 (show gV τ174 22 0 6 = (gV σ 22 0 6) from (f176.1 22 0 (6) (by decide) (by decide)).trans (show gV τ153 22 0 6 = (gV σ 22 0 6) from gV_put eτ153 (show gV τ61 22 0 6 = (gV σ 22 0 6) from (f63.1 22 0 (6) (by decide) (by decide)).trans (show gV τ40 22 0 6 = (gV σ 22 0 6) from (f42.1 22 0 (6) (by decide) (by decide)).trans rfl))))))
            have q226 : (gV τ220 23 0 152).toInt = (gV σ 23 0 152).toInt := congrArg Int32.toInt (show (gV τ220 23 0 152) = (gV σ 23 0 152) from (show gV τ220 23 0 152 = (gV σ 23 0 152) from gV_put eτ220 (show gV τ174 23 0 152 = (gV σ 23 0 152) from (f176.1 23 0 (152) (by decide) (by decide)).trans (show gV τ153 23 0 152 = (gV σ 23 0 152) from gV_put eτ153 (show gV τ61 23 0 152 = (gV σ 23 0 152) from (f63.1 23 0 (152) (by decide) (by decide)).trans (show gV τ40 23 0 152 = (gV σ 23 0 152) from (f42.1 23 0 (152) (by decide) (by decide)).trans rfl))))))
            have q227 : (gV τ220 23 0 188).toInt = (gV σ 23 0 188).toInt := congrArg Int32.toInt (show (gV τ220 23 0 188) = (gV σ 23 0 188) from (show gV τ220 23 0 188 = (gV σ 23 0 188) from gV_put eτ220 (show gV τ174 23 0 188 = (gV σ 23 0 188) from (f176.1 23 0 (188) (by decide) (by decide)).trans (show gV τ153 23 0 188 = (gV σ 23 0 188) from gV_put eτ153 (show gV τ61 23 0 188 = (gV σ 23 0 188) from (f63.1 23 0 (188) (by decide) (by decide)).trans (show gV τ40 23 0 188 = (gV σ 23 0 188) from (f42.1 23 0 (188) (by decide) (by decide)).trans rfl))))))
            have q228 : (gV τ220 23 0 150).toInt = x64.toInt := congrArg Int32.toInt (show (gV τ220 23 0 150) = x64 from (show gV τ220 23 0 150 = x64 from gV_put eτ220 (show gV τ174 23 0 150 = x64 from (f176.1 23 0 (150) (by decide) (by decide)).trans (show gV τ153 23 0 150 = x64 from gV_put eτ153 (gV_self _ _ _ _ _)))))
            have q229 : (gV τ220 22 0 11).toInt = (gV τ174 22 0 11).toInt := congrArg Int32.toInt (show (gV τ220 22 0 11) = (gV τ174 22 0 11) from (show gV τ220 22 0 11 = (gV τ174 22 0 11) from gV_put eτ220 rfl))
            have q230 : (gV τ220 22 0 12).toInt = (gV τ174 22 0 12).toInt := congrArg Int32.toInt (show (gV τ220 22 0 12) = (gV τ174 22 0 12) from (show gV τ220 22 0 12 = (gV τ174 22 0 12) from gV_put eτ220 rfl))
            have q231 : (gV τ220 22 0 13).toInt = (gV τ174 22 0 13).toInt := congrArg Int32.toInt (show (gV τ220 22 0 13) = (gV τ174 22 0 13) from (show gV τ220 22 0 13 = (gV τ174 22 0 13) from gV_put eτ220 rfl))
            have q232 : (gV τ220 22 0 15).toInt = (gV τ174 22 0 15).toInt := congrArg Int32.toInt (show (gV τ220 22 0 15) = (gV τ174 22 0 15) from (show gV τ220 22 0 15 = (gV τ174 22 0 15) from gV_put eτ220 rfl))
            have q233 : (gV τ220 22 0 16).toInt = (gV τ174 22 0 16).toInt := congrArg Int32.toInt (show (gV τ220 22 0 16) = (gV τ174 22 0 16) from (show gV τ220 22 0 16 = (gV τ174 22 0 16) from gV_put eτ220 rfl))
            refine m_callV (n := 0) (ci := 11) (st := []) C (c_X12_takeSignE l G τ220 T N (tE T N (tE T N (tE T N i)))  i221 v223 (by omega) (by omega)) (by decide) (by decide) rfl rfl rfl q5_15 q5_12 q5_14 q0_32 q1_7 (by decide +kernel) rfl (by decide) (by decide) rfl (Nat.le_of_ble_eq_true rfl) dX12_takeLaw_72 ?_
            rintro _ τ234 ⟨rfl, i235, f236, h240⟩
            have g239 : Fr MS_X12_takeLawS AS_X12_takeLawS σ τ234 := Fr.call (f222) f236 (by decide)
            have v241 : TpM τ234 T N := v223.fr f236 (by decide) (by decide) (by simp) (by decide)
            have v242 : SFm σ τ234 := v224.fr f236 (by simp) (by decide)
            have u243 : IV (gV τ234 22 0 11) 0 400 := i235.1 22 0 11
            have q244 : (gV τ234 22 0 6).toInt = (gV σ 22 0 6).toInt := congrArg Int32.toInt (show (gV τ234 22 0 6) = (gV σ 22 0 6) from (show gV τ234 22 0 6 = (gV σ 22 0 6) from (f236.1 22 0 (6) (by decide) (by decide)).trans (show gV τ220 22 0 6 = (gV σ 22 0 6) from gV_put eτ220 (show gV τ174 22 0 6 = (gV σ 22 0 6) from (f176.1 22 0 (6) (by decide) (by decide)).trans (show gV τ153 22 0 6 = (gV σ 22 0 6) from gV_put eτ153 (show gV τ61 22 0 6 = (gV σ 22 0 6) from (f63.1 22 0 (6) (by decide) (by decide)).trans (show gV τ40 22 0 6 = (gV σ 22 0 6) from (f42.1 22 0 (6) (by decide) (by decide)).trans rfl)))))))
            have q245 : (gV τ234 23 0 152).toInt = (gV σ 23 0 152).toInt := congrArg Int32.toInt (show (gV τ234 23 0 152) = (gV σ 23 0 152) from (show gV τ234 23 0 152 = (gV σ 23 0 152) from (f236.1 23 0 (152) (by decide) (by decide)).trans (show gV τ220 23 0 152 = (gV σ 23 0 152) from gV_put eτ220 (show gV τ174 23 0 152 = (gV σ 23 0 152) from (f176.1 23 0 (152) (by decide) (by decide)).trans (show gV τ153 23 0 152 = (gV σ 23 0 152) from gV_put eτ153 (show gV τ61 23 0 152 = (gV σ 23 0 152) from (f63.1 23 0 (152) (by decide) (by decide)).trans (show gV τ40 23 0 152 = (gV σ 23 0 152) from (f42.1 23 0 (152) (by decide) (by decide)).trans rfl)))))))
            have q246 : (gV τ234 23 0 188).toInt = (gV σ 23 0 188).toInt := congrArg Int32.toInt (show (gV τ234 23 0 188) = (gV σ 23 0 188) from (show gV τ234 23 0 188 = (gV σ 23 0 188) from (f236.1 23 0 (188) (by decide) (by decide)).trans (show gV τ220 23 0 188 = (gV σ 23 0 188) from gV_put eτ220 (show gV τ174 23 0 188 = (gV σ 23 0 188) from (f176.1 23 0 (188) (by decide) (by decide)).trans (show gV τ153 23 0 188 = (gV σ 23 0 188) from gV_put eτ153 (show gV τ61 23 0 188 = (gV σ 23 0 188) from (f63.1 23 0 (188) (by decide) (by decide)).trans (show gV τ40 23 0 188 = (gV σ 23 0 188) from (f42.1 23 0 (188) (by decide) (by decide)).trans rfl)))))))
            have q247 : (gV τ234 23 0 150).toInt = x64.toInt := congrArg Int32.toInt (show (gV τ234 23 0 150) = x64 from (show gV τ234 23 0 150 = x64 from (f236.1 23 0 (150) (by decide) (by decide)).trans (show gV τ220 23 0 150 = x64 from gV_put eτ220 (show gV τ174 23 0 150 = x64 from (f176.1 23 0 (150) (by decide) (by decide)).trans (show gV τ153 23 0 150 = x64 from gV_put eτ153 (gV_self _ _ _ _ _))))))
            rcases h240 with ⟨h240_0, h240_1, h240_2, h240_3⟩ | ⟨h240_0, h240_1, h240_2, h240_3, h240_4⟩ | ⟨h240_0, h240_1, h240_2, h240_3, h240_4, h240_5⟩
            · skip
              show MW p l e _ s m args below meth c _ 1 G 0 0 75 [some (.ref (G.1 22 0))] [] τ234
              exact m_vret C hr hlk (by decide) (by decide) dX12_takeLaw_75 ⟨rfl, i235, g239, ⟨(by have qd := law_4 T N i (by omega) (by omega) (by omega) (by omega) (by omega); exact Or.inl ⟨by omega, by omega, by omega, by omega, by omega⟩), v242⟩⟩
            · skip
              exfalso; omega
            · skip
              exfalso; omega
          · skip
            have q248 : 1 ≤ tV T (tE T N (tE T N i)) ∧ tV T (tE T N (tE T N i)) ≤ 99 := by omega
            clear h180_1
            have b249 : IV (gV τ174 22 0 16) 0 0 := ⟨by omega, by omega⟩
            show MW p l e _ s m args below meth c _ 1 G 0 0 66 [some (.ref (G.1 22 0))] [.int x177, .int 151, .ref (G.1 23 0)] τ174
            refine m_goto (tgt := 70) C dX12_takeLaw_66 (by decide) ?_
            refine as_23 C kc_151 (by decide) kn_151 dX12_takeLaw_70 ?_
            refine m_tops (fun τ250 eτ250 => ?_)
            have i251 : Inv τ250 := eτ250 ▸ Inv.putW i175 (by decide)
            have f252 : Fr MS_X12_takeLawS AS_X12_takeLawS σ τ250 := eτ250 ▸ Fr.put (g179) (Or.inr (by decide))
            have v253 : TpM τ250 T N := v181.put eτ250 (Or.inl (by decide)) (by decide)
            have v254 : SFm σ τ250 := v182.put eτ250 (by omega)
            have v255 : LW T N (tE T N (tE T N (tE T N i))) τ250.2.2.1 := by rw [eτ250]; exact h180_6
            refine m_aload_n C dX12_takeLaw_71 rfl rfl ?_
            have q256 : (gV τ250 22 0 6).toInt = (gV σ 22 0 6).toInt := congrArg Int32.toInt (show (gV τ250 22 0 6) = (gV σ 22 0 6) from (show gV τ250 22 0 6 = (gV σ 22 0 6) from gV_put eτ250 (show gV τ174 22 0 6 = (gV σ 22 0 6) from (f176.1 22 0 (6) (by decide) (by decide)).trans (show gV τ153 22 0 6 = (gV σ 22 0 6) from gV_put eτ153 (show gV τ61 22 0 6 = (gV σ 22 0 6) from (f63.1 22 0 (6) (by decide) (by decide)).trans (show gV τ40 22 0 6 = (gV σ 22 0 6) from (f42.1 22 0 (6) (by decide) (by decide)).trans rfl))))))
            have q257 : (gV τ250 23 0 152).toInt = (gV σ 23 0 152).toInt := congrArg Int32.toInt (show (gV τ250 23 0 152) = (gV σ 23 0 152) from (show gV τ250 23 0 152 = (gV σ 23 0 152) from gV_put eτ250 (show gV τ174 23 0 152 = (gV σ 23 0 152) from (f176.1 23 0 (152) (by decide) (by decide)).trans (show gV τ153 23 0 152 = (gV σ 23 0 152) from gV_put eτ153 (show gV τ61 23 0 152 = (gV σ 23 0 152) from (f63.1 23 0 (152) (by decide) (by decide)).trans (show gV τ40 23 0 152 = (gV σ 23 0 152) from (f42.1 23 0 (152) (by decide) (by decide)).trans rfl))))))
            have q258 : (gV τ250 23 0 188).toInt = (gV σ 23 0 188).toInt := congrArg Int32.toInt (show (gV τ250 23 0 188) = (gV σ 23 0 188) from (show gV τ250 23 0 188 = (gV σ 23 0 188) from gV_put eτ250 (show gV τ174 23 0 188 = (gV σ 23 0 188) from (f176.1 23 0 (188) (by decide) (by decide)).trans (show gV τ153 23 0 188 = (gV σ 23 0 188) from gV_put eτ153 (show gV τ61 23 0 188 = (gV σ 23 0 188) from (f63.1 23 0 (188) (by decide) (by decide)).trans (show gV τ40 23 0 188 = (gV σ 23 0 188) from (f42.1 23 0 (188) (by decide) (by decide)).trans rfl))))))
            have q259 : (gV τ250 23 0 150).toInt = x64.toInt := congrArg Int32.toInt (show (gV τ250 23 0 150) = x64 from (show gV τ250 23 0 150 = x64 from gV_put eτ250 (show gV τ174 23 0 150 = x64 from (f176.1 23 0 (150) (by decide) (by decide)).trans (show gV τ153 23 0 150 = x64 from gV_put eτ153 (gV_self _ _ _ _ _)))))
            have q260 : (gV τ250 22 0 11).toInt = (gV τ174 22 0 11).toInt := congrArg Int32.toInt (show (gV τ250 22 0 11) = (gV τ174 22 0 11) from (show gV τ250 22 0 11 = (gV τ174 22 0 11) from gV_put eτ250 rfl))
            have q261 : (gV τ250 22 0 12).toInt = (gV τ174 22 0 12).toInt := congrArg Int32.toInt (show (gV τ250 22 0 12) = (gV τ174 22 0 12) from (show gV τ250 22 0 12 = (gV τ174 22 0 12) from gV_put eτ250 rfl))
            have q262 : (gV τ250 22 0 13).toInt = (gV τ174 22 0 13).toInt := congrArg Int32.toInt (show (gV τ250 22 0 13) = (gV τ174 22 0 13) from (show gV τ250 22 0 13 = (gV τ174 22 0 13) from gV_put eτ250 rfl))
            have q263 : (gV τ250 22 0 15).toInt = (gV τ174 22 0 15).toInt := congrArg Int32.toInt (show (gV τ250 22 0 15) = (gV τ174 22 0 15) from (show gV τ250 22 0 15 = (gV τ174 22 0 15) from gV_put eτ250 rfl))
            have q264 : (gV τ250 22 0 16).toInt = (gV τ174 22 0 16).toInt := congrArg Int32.toInt (show (gV τ250 22 0 16) = (gV τ174 22 0 16) from (show gV τ250 22 0 16 = (gV τ174 22 0 16) from gV_put eτ250 rfl))
            refine m_callV (n := 0) (ci := 11) (st := []) C (c_X12_takeSignE l G τ250 T N (tE T N (tE T N (tE T N i)))  i251 v253 (by omega) (by omega)) (by decide) (by decide) rfl rfl rfl q5_15 q5_12 q5_14 q0_32 q1_7 (by decide +kernel) rfl (by decide) (by decide) rfl (Nat.le_of_ble_eq_true rfl) dX12_takeLaw_72 ?_
            rintro _ τ265 ⟨rfl, i266, f267, h271⟩
            have g270 : Fr MS_X12_takeLawS AS_X12_takeLawS σ τ265 := Fr.call (f252) f267 (by decide)
            clear h180_4
            have v272 : TpM τ265 T N := v253.fr f267 (by decide) (by decide) (by simp) (by decide)
            have v273 : SFm σ τ265 := v254.fr f267 (by simp) (by decide)
            have u274 : IV (gV τ265 22 0 11) 0 400 := i266.1 22 0 11
            have q275 : (gV τ265 22 0 6).toInt = (gV σ 22 0 6).toInt := congrArg Int32.toInt (show (gV τ265 22 0 6) = (gV σ 22 0 6) from (show gV τ265 22 0 6 = (gV σ 22 0 6) from (f267.1 22 0 (6) (by decide) (by decide)).trans (show gV τ250 22 0 6 = (gV σ 22 0 6) from gV_put eτ250 (show gV τ174 22 0 6 = (gV σ 22 0 6) from (f176.1 22 0 (6) (by decide) (by decide)).trans (show gV τ153 22 0 6 = (gV σ 22 0 6) from gV_put eτ153 (show gV τ61 22 0 6 = (gV σ 22 0 6) from (f63.1 22 0 (6) (by decide) (by decide)).trans (show gV τ40 22 0 6 = (gV σ 22 0 6) from (f42.1 22 0 (6) (by decide) (by decide)).trans rfl)))))))
            have q276 : (gV τ265 23 0 152).toInt = (gV σ 23 0 152).toInt := congrArg Int32.toInt (show (gV τ265 23 0 152) = (gV σ 23 0 152) from (show gV τ265 23 0 152 = (gV σ 23 0 152) from (f267.1 23 0 (152) (by decide) (by decide)).trans (show gV τ250 23 0 152 = (gV σ 23 0 152) from gV_put eτ250 (show gV τ174 23 0 152 = (gV σ 23 0 152) from (f176.1 23 0 (152) (by decide) (by decide)).trans (show gV τ153 23 0 152 = (gV σ 23 0 152) from gV_put eτ153 (show gV τ61 23 0 152 = (gV σ 23 0 152) from (f63.1 23 0 (152) (by decide) (by decide)).trans (show gV τ40 23 0 152 = (gV σ 23 0 152) from (f42.1 23 0 (152) (by decide) (by decide)).trans rfl)))))))
            have q277 : (gV τ265 23 0 188).toInt = (gV σ 23 0 188).toInt := congrArg Int32.toInt (show (gV τ265 23 0 188) = (gV σ 23 0 188) from (show gV τ265 23 0 188 = (gV σ 23 0 188) from (f267.1 23 0 (188) (by decide) (by decide)).trans (show gV τ250 23 0 188 = (gV σ 23 0 188) from gV_put eτ250 (show gV τ174 23 0 188 = (gV σ 23 0 188) from (f176.1 23 0 (188) (by decide) (by decide)).trans (show gV τ153 23 0 188 = (gV σ 23 0 188) from gV_put eτ153 (show gV τ61 23 0 188 = (gV σ 23 0 188) from (f63.1 23 0 (188) (by decide) (by decide)).trans (show gV τ40 23 0 188 = (gV σ 23 0 188) from (f42.1 23 0 (188) (by decide) (by decide)).trans rfl)))))))
            have q278 : (gV τ265 23 0 150).toInt = x64.toInt := congrArg Int32.toInt (show (gV τ265 23 0 150) = x64 from (show gV τ265 23 0 150 = x64 from (f267.1 23 0 (150) (by decide) (by decide)).trans (show gV τ250 23 0 150 = x64 from gV_put eτ250 (show gV τ174 23 0 150 = x64 from (f176.1 23 0 (150) (by decide) (by decide)).trans (show gV τ153 23 0 150 = x64 from gV_put eτ153 (gV_self _ _ _ _ _))))))
            rcases h271 with ⟨h271_0, h271_1, h271_2, h271_3⟩ | ⟨h271_0, h271_1, h271_2, h271_3, h271_4⟩ | ⟨h271_0, h271_1, h271_2, h271_3, h271_4, h271_5⟩
            · skip
              exfalso; omega
            · skip
              have b279 : IV (gV τ265 22 0 16) 1 1 := ⟨by omega, by omega⟩
              show MW p l e _ s m args below meth c _ 1 G 0 0 75 [some (.ref (G.1 22 0))] [] τ265
              exact m_vret C hr hlk (by decide) (by decide) dX12_takeLaw_75 ⟨rfl, i266, g270, ⟨(by have qd := law_5 T N i (by omega) (by omega) (by omega) (by omega) (by omega) (by omega); exact Or.inl ⟨by omega, by omega, by omega, by omega, by omega⟩), v273⟩⟩
            · skip
              have b280 : IV (gV τ265 22 0 16) 0 0 := ⟨by omega, by omega⟩
              show MW p l e _ s m args below meth c _ 1 G 0 0 75 [some (.ref (G.1 22 0))] [] τ265
              exact m_vret C hr hlk (by decide) (by decide) dX12_takeLaw_75 ⟨rfl, i266, g270, ⟨(by have qd := law_ok T N i (by omega) (by omega) (by omega) (by omega) (by omega) (by omega); exact Or.inr ⟨by omega, by omega, by omega, by omega, by omega, by omega, h271_5⟩), v273⟩⟩
    · have f281 : x31.toInt ≠ 0 := by
        have q : _ := c36
        simp only [ti_nle, ti_nlt, ti_le, ti_lt, ti_eq, ti_ne, Classical.not_not, kt_0] at q
        omega
      refine m_aload_n C dX12_takeLaw_18 rfl rfl ?_
      refine m_iconst (v := 1) C dX12_takeLaw_19 (by decide) ?_
      refine p_22_16 C q4_132 dX12_takeLaw_20 ?_
      refine m_tops (fun τ282 eτ282 => ?_)
      have i283 : Inv τ282 := eτ282 ▸ Inv.putF hI (by decide) rfl
      have f284 : Fr MS_X12_takeLawS AS_X12_takeLawS σ τ282 := eτ282 ▸ Fr.put (Fr.rf) (Or.inl (by decide))
      have v285 : TpM τ282 T N := hT.put eτ282 (Or.inr (by decide)) (by decide)
      have v286 : SFm σ τ282 := SFm.rf.putO eτ282 (by decide)
      have v287 : τ282.2.2.1 = σ.2.2.1 := by rw [eτ282]; rfl
      have v288 : LW T N i τ282.2.2.1 := by rw [eτ282]; exact hW
      have q289 : (gV τ282 22 0 11).toInt = (gV σ 22 0 11).toInt := congrArg Int32.toInt (show (gV τ282 22 0 11) = (gV σ 22 0 11) from (show gV τ282 22 0 11 = (gV σ 22 0 11) from gV_put eτ282 rfl))
      have q290 : (gV τ282 22 0 12).toInt = (gV σ 22 0 12).toInt := congrArg Int32.toInt (show (gV τ282 22 0 12) = (gV σ 22 0 12) from (show gV τ282 22 0 12 = (gV σ 22 0 12) from gV_put eτ282 rfl))
      have q291 : (gV τ282 22 0 13).toInt = (gV σ 22 0 13).toInt := congrArg Int32.toInt (show (gV τ282 22 0 13) = (gV σ 22 0 13) from (show gV τ282 22 0 13 = (gV σ 22 0 13) from gV_put eτ282 rfl))
      have q292 : (gV τ282 22 0 15).toInt = (gV σ 22 0 15).toInt := congrArg Int32.toInt (show (gV τ282 22 0 15) = (gV σ 22 0 15) from (show gV τ282 22 0 15 = (gV σ 22 0 15) from gV_put eτ282 rfl))
      have q293 : (gV τ282 22 0 6).toInt = (gV σ 22 0 6).toInt := congrArg Int32.toInt (show (gV τ282 22 0 6) = (gV σ 22 0 6) from (show gV τ282 22 0 6 = (gV σ 22 0 6) from gV_put eτ282 rfl))
      have q294 : (gV τ282 23 0 150).toInt = (gV σ 23 0 150).toInt := congrArg Int32.toInt (show (gV τ282 23 0 150) = (gV σ 23 0 150) from (show gV τ282 23 0 150 = (gV σ 23 0 150) from gV_put eτ282 rfl))
      have q295 : (gV τ282 23 0 152).toInt = (gV σ 23 0 152).toInt := congrArg Int32.toInt (show (gV τ282 23 0 152) = (gV σ 23 0 152) from (show gV τ282 23 0 152 = (gV σ 23 0 152) from gV_put eτ282 rfl))
      have q296 : (gV τ282 23 0 188).toInt = (gV σ 23 0 188).toInt := congrArg Int32.toInt (show (gV τ282 23 0 188) = (gV σ 23 0 188) from (show gV τ282 23 0 188 = (gV σ 23 0 188) from gV_put eτ282 rfl))
      have q297 : (gV τ282 22 0 16).toInt = 1 := (congrArg Int32.toInt (show (gV τ282 22 0 16) = 1 from (show gV τ282 22 0 16 = 1 from gV_put eτ282 (gV_self _ _ _ _ _)))).trans kt_1
      exact m_vret C hr hlk (by decide) (by decide) dX12_takeLaw_23 ⟨rfl, i283, f284, ⟨(by have qd := law_0 T N i (by omega); exact Or.inl ⟨by omega, by omega, by omega, by omega, by omega⟩), v286⟩⟩
