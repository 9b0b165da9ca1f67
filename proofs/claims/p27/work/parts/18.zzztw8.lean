abbrev MS_X12_towerS : List (Nat × Nat) := [(22, 6), (22, 7), (22, 9), (22, 11), (22, 12), (22, 13), (22, 15), (22, 16)]
abbrev AS_X12_towerS : List Nat := [23]
set_option maxHeartbeats 4000000 in
set_option maxRecDepth 100000 in
theorem c_X12_towerS (l : Launch) (G : Gt) (σ : Sg) (T : Nat → Int) (N : Nat) (S : Stt) (I : Nat → Stt) (hI : Inv σ) (hT : TpM σ T N) (hMA : MA σ S I) : Mc l G yX12_tower cX12_tower 2 (some .int) 4 92 0 0 [.ref (G.1 22 0)] σ (PI fun r τ => Inv τ ∧ Fr MS_X12_towerS AS_X12_towerS σ τ ∧ IV r (-1000500) 7 ∧ (((r.toInt = -1000100 - outP T N ∧ outF T N ≠ 0 ∧ (gV τ 22 0 7).toInt = outF T N ∧ (gV τ 22 0 6).toInt = 0) ∨ (r.toInt = outN T N ∧ outF T N = 0 ∧ (gV τ 22 0 7).toInt = (gV σ 22 0 7).toInt ∧ (gV τ 22 0 6).toInt = 0)) ∧ (outF T N ≠ 0 → MA τ S I) ∧ (outF T N = 0 → MA τ (SS T N) I))) := by
  refine Mc.of (L0 := [some (.ref (G.1 22 0)), none]) (by decide) (Nat.le_of_ble_eq_true rfl) rfl ?_
  intro p e s m args below meth c C hr hlk
  have C : Cx p s m args c cX12_tower 2 "LeanTowerModel" := C
  have k0 : (0 : Int32).toInt = 0 := by decide
  have k1 : (1 : Int32).toInt = 1 := by decide
  have J75 : ∀ (n : Nat) (τ : Sg) (q75 : Nat), Inv τ → Fr MS_X12_towerS AS_X12_towerS σ τ → (MA τ S I) → (TpM τ T N) → ((((gV τ 22 0 16).toInt = 0 ∧ CuM T N q75 τ ∧ (gV τ 22 0 11).toInt ≤ (gV τ 22 0 6).toInt ∧ Pb τ ∧ LW T N q75 τ.2.2.1 ∧ SI_ T N (gV τ 23 0 152).toInt.toNat (gV τ 23 0 188).toInt.toNat q75) ∨ ((1 ≤ (gV τ 22 0 16).toInt ∧ (gV τ 22 0 16).toInt ≤ 3) ∧ outF T N = (gV τ 22 0 16).toInt ∧ ((gV τ 22 0 12).toInt = outP T N ∧ 0 ≤ outP T N ∧ (gV τ 22 0 12).toInt ≤ 400) ∧ (gV τ 22 0 11).toInt ≤ (gV τ 22 0 6).toInt ∧ 0 ≤ (gV τ 23 0 152).toInt ∧ (gV τ 23 0 152).toInt ≤ 7 ∧ 0 ≤ (gV τ 23 0 188).toInt ∧ (gV τ 23 0 188).toInt ≤ 4))) → (((gV τ 22 0 16).toInt = 0 → PrM τ (gV τ 23 0 152).toInt.toNat (PP T N) ∧ ((gV τ 23 0 150).toInt = tV T (tE T N 0) ∧ 4 ≤ tV T (tE T N 0) ∧ tV T (tE T N 0) ≤ 32))) → ((gV τ 22 0 7).toInt = (gV σ 22 0 7).toInt) → (2 * (5 - (gV τ 23 0 188).toInt) + 1 - min 1 (max (gV τ 22 0 16).toInt (-(gV τ 22 0 16).toInt))).toNat < n → MW p l e { frames := 4, cells := 0, slots := 0, locals := 92 } s m args below meth c (MQ below (QP G (PI fun r τ => Inv τ ∧ Fr MS_X12_towerS AS_X12_towerS σ τ ∧ IV r (-1000500) 7 ∧ (((r.toInt = -1000100 - outP T N ∧ outF T N ≠ 0 ∧ (gV τ 22 0 7).toInt = outF T N ∧ (gV τ 22 0 6).toInt = 0) ∨ (r.toInt = outN T N ∧ outF T N = 0 ∧ (gV τ 22 0 7).toInt = (gV σ 22 0 7).toInt ∧ (gV τ 22 0 6).toInt = 0)) ∧ (outF T N ≠ 0 → MA τ S I) ∧ (outF T N = 0 → MA τ (SS T N) I)))) args s 0 0 (aG G)) 2 G 0 0 75 [some (.ref (G.1 22 0)), none] [] τ := by
    intro n
    induction n with
    | zero => intro τ q75 iτ fτ v_MA v_T nR nC n1 hm; exact absurd hm (Nat.not_lt_zero _)
    | succ n ih75 =>
      intro τ q75 iτ fτ v_MA v_T nR nC n1 hm75
      have u2 : IV (gV τ 22 0 11) 0 400 := iτ.1 22 0 11
      have u3 : IV (gV τ 22 0 6) 0 400 := iτ.1 22 0 6
      have u4 : IV (gV τ 23 0 152) 0 7 := iτ.1 23 0 152
      have u5 : IV (gV τ 23 0 188) 0 4 := iτ.1 23 0 188
      have u6 : IV (gV τ 23 0 2) 0 7 := iτ.1 23 0 2
      have q7 : (gV τ 22 0 6).toInt = (N : Int) := v_T.1
      have q8 := v_T.2.1
      rcases nR with ⟨n0_, n1_, n2_, nb, nw, nP⟩ | ⟨n0_, n1_, n2_, n3_, n4_, n5_, n6_, n7_⟩
      · skip
        have b9 : IV (gV τ 22 0 16) 0 0 := ⟨by omega, by omega⟩
        obtain ⟨nD1, nD2⟩ := nC (by omega)
        refine m_aload_n C dX12_tower_75 rfl rfl ?_
        refine g_22_16 C q4_132 dX12_tower_76 ?_
        refine m_eqs (w := (gV τ 22 0 16)) rfl ?_
        refine m_if_ne (tgt := 107) C dX12_tower_79 (by decide) (fun c10 => ?_) (fun c10 => ?_)
        · exfalso
          have q : _ := c10
          simp only [ti_nle, ti_nlt, ti_le, ti_lt, ti_eq, ti_ne, Classical.not_not, kt_0] at q
          have q1 := b9; have q2 := kc_0; omega
        · have f12 : (gV τ 22 0 16).toInt = 0 := by
            have q : _ := c10
            simp only [ti_nle, ti_nlt, ti_le, ti_lt, ti_eq, ti_ne, Classical.not_not, kt_0] at q
            omega
          refine m_aload_n C dX12_tower_82 rfl rfl ?_
          refine g_22_13 C q4_129 dX12_tower_83 ?_
          refine m_topi (fun x13 ex13 => ?_)
          have q14 : (x13.toInt = 0 ↔ tK T N q75 = 1) := by have qc := n1_.1; rw [ex13]; omega
          have q15 : (x13.toInt = 4 ↔ tK T N q75 = 0) := by have qc := n1_.1; rw [ex13]; omega
          refine m_if_ne (tgt := 107) C dX12_tower_86 (by decide) (fun c16 => ?_) (fun c16 => ?_)
          · have f17 : x13.toInt ≠ 0 := by
              have q : _ := c16
              simp only [ti_nle, ti_nlt, ti_le, ti_lt, ti_eq, ti_ne, Classical.not_not, kt_0] at q
              omega
            have q18 := nP.no (by omega)
            have q19 : (gV τ 22 0 12).toInt = (tS T q75 : Int) ∧ (gV τ 22 0 12).toInt ≤ 400 := ⟨n1_.1.1, n1_.1.2.2.2.2.2.2⟩
            refine m_aload_n C dX12_tower_107 rfl rfl ?_
            refine m_aload_n C dX12_tower_108 rfl rfl ?_
            refine g_22_16 C q4_132 dX12_tower_109 ?_
            refine m_eqs (w := (gV τ 22 0 16)) rfl ?_
            refine m_if_ne (tgt := 127) C dX12_tower_112 (by decide) (fun c20 => ?_) (fun c20 => ?_)
            · exfalso
              have q : _ := c20
              simp only [ti_nle, ti_nlt, ti_le, ti_lt, ti_eq, ti_ne, Classical.not_not, kt_0] at q
              have q1 := b9; have q2 := kc_0; omega
            · have f22 : (gV τ 22 0 16).toInt = 0 := by
                have q : _ := c20
                simp only [ti_nle, ti_nlt, ti_le, ti_lt, ti_eq, ti_ne, Classical.not_not, kt_0] at q
                omega
              refine m_aload_n C dX12_tower_115 rfl rfl ?_
              refine g_22_13 C q4_129 dX12_tower_116 ?_
              refine m_eqs (w := x13) ex13.symm ?_
              have q23 : (x13.toInt = 0 ↔ tK T N q75 = 1) := by have qc := n1_.1; rw [ex13]; omega
              have q24 : (x13.toInt = 4 ↔ tK T N q75 = 0) := by have qc := n1_.1; rw [ex13]; omega
              refine m_iconst (v := 4) C dX12_tower_119 (by decide) ?_
              refine m_icmp_eq (tgt := 127) C dX12_tower_120 (by decide) (fun c25 => ?_) (fun c25 => ?_)
              · have f26 : x13.toInt = 4 := by
                  have q : _ := c25
                  simp only [ti_nle, ti_nlt, ti_le, ti_lt, ti_eq, ti_ne, Classical.not_not, kt_4] at q
                  omega
                have b27 : IV x13 4 4 := ⟨by have q1 := (iv_any x13); have q2 := kc_4; omega, by have q1 := (iv_any x13); have q2 := kc_4; omega⟩
                refine m_aload_n C dX12_tower_127 rfl rfl ?_
                refine g_22_16 C q4_132 dX12_tower_128 ?_
                refine m_eqs (w := (gV τ 22 0 16)) rfl ?_
                refine p_22_16 C q4_132 dX12_tower_131 ?_
                refine m_tops (fun τ28 eτ28 => ?_)
                have i29 : Inv τ28 := eτ28 ▸ Inv.putF iτ (by decide) rfl
                have f30 : Fr MS_X12_towerS AS_X12_towerS σ τ28 := eτ28 ▸ Fr.put (fτ) (Or.inl (by decide))
                have v31 : TpM τ28 T N := v_T.put eτ28 (Or.inr (by decide)) (by decide)
                have v32 : MA τ28 S I := v_MA.put iτ eτ28 (Or.inr (by decide)) (by decide) (by decide)
                have v33 : τ28.2.2.1 = τ.2.2.1 := by rw [eτ28]; rfl
                have v34 : LW T N q75 τ28.2.2.1 := by rw [eτ28]; exact nw
                have v35 : CuM T N q75 τ28 := CuM.put n1_ eτ28 (Or.inr (by decide))
                have v36 : Pb τ28 := nb.put eτ28 (Or.inl (by decide))
                refine m_aload_n C dX12_tower_134 rfl rfl ?_
                refine m_iconst (v := 0) C dX12_tower_135 (by decide) ?_
                refine p_22_6 C q4_122 dX12_tower_136 ?_
                refine m_tops (fun τ37 eτ37 => ?_)
                have i38 : Inv τ37 := eτ37 ▸ Inv.put i29 (by decide) (iv_wk kc_0 (by decide))
                have f39 : Fr MS_X12_towerS AS_X12_towerS σ τ37 := eτ37 ▸ Fr.put (f30) (Or.inl (by decide))
                have v41 : MA τ37 S I := v32.put i29 eτ37 (Or.inr (by decide)) (by decide) (by decide)
                have v42 : τ37.2.2.1 = τ.2.2.1 := by rw [eτ37]; exact v33
                have v43 : LW T N q75 τ37.2.2.1 := by rw [eτ37]; exact v34
                have v44 : Pb τ37 := v36.put eτ37 (Or.inl (by decide))
                refine m_aload_n C dX12_tower_139 rfl rfl ?_
                refine g_22_16 C q4_132 dX12_tower_140 ?_
                refine m_eqs (w := (gV τ 22 0 16)) (show gV τ37 22 0 16 = (gV τ 22 0 16) from gV_put eτ37 (show gV τ28 22 0 16 = (gV τ 22 0 16) from gV_put eτ28 (gV_self _ _ _ _ _))) ?_
                refine m_if_eq (tgt := 162) C dX12_tower_143 (by decide) (fun c45 => ?_) (fun c45 => ?_)
                · have f46 : (gV τ 22 0 16).toInt = 0 := by
                    have q : _ := c45
                    simp only [ti_nle, ti_nlt, ti_le, ti_lt, ti_eq, ti_ne, Classical.not_not, kt_0] at q
                    omega
                  refine m_aload_n C dX12_tower_162 rfl rfl ?_
                  refine m_sipush (v := 150) C dX12_tower_163 (by decide) ?_
                  refine m_iconst (v := 0) C dX12_tower_166 (by decide) ?_
                  have a47 : gV τ37 22 0 11 = (gV τ 22 0 11) := (show gV τ37 22 0 11 = (gV τ 22 0 11) from gV_put eτ37 (show gV τ28 22 0 11 = (gV τ 22 0 11) from gV_put eτ28 rfl))
                  have q48 : (gV τ37 22 0 11).toInt = (gV τ 22 0 11).toInt := congrArg Int32.toInt a47
                  have a49 : gV τ37 22 0 12 = (gV τ 22 0 12) := (show gV τ37 22 0 12 = (gV τ 22 0 12) from gV_put eτ37 (show gV τ28 22 0 12 = (gV τ 22 0 12) from gV_put eτ28 rfl))
                  have q50 : (gV τ37 22 0 12).toInt = (gV τ 22 0 12).toInt := congrArg Int32.toInt a49
                  have a51 : gV τ37 22 0 7 = (gV τ 22 0 7) := (show gV τ37 22 0 7 = (gV τ 22 0 7) from gV_put eτ37 (show gV τ28 22 0 7 = (gV τ 22 0 7) from gV_put eτ28 rfl))
                  have q52 : (gV τ37 22 0 7).toInt = (gV τ 22 0 7).toInt := congrArg Int32.toInt a51
                  have a53 : gV τ37 23 0 150 = (gV τ 23 0 150) := (show gV τ37 23 0 150 = (gV τ 23 0 150) from gV_put eτ37 (show gV τ28 23 0 150 = (gV τ 23 0 150) from gV_put eτ28 rfl))
                  have q54 : (gV τ37 23 0 150).toInt = (gV τ 23 0 150).toInt := congrArg Int32.toInt a53
                  have a55 : gV τ37 23 0 152 = (gV τ 23 0 152) := (show gV τ37 23 0 152 = (gV τ 23 0 152) from gV_put eτ37 (show gV τ28 23 0 152 = (gV τ 23 0 152) from gV_put eτ28 rfl))
                  have q56 : (gV τ37 23 0 152).toInt = (gV τ 23 0 152).toInt := congrArg Int32.toInt a55
                  have a57 : gV τ37 23 0 188 = (gV τ 23 0 188) := (show gV τ37 23 0 188 = (gV τ 23 0 188) from gV_put eτ37 (show gV τ28 23 0 188 = (gV τ 23 0 188) from gV_put eτ28 rfl))
                  have q58 : (gV τ37 23 0 188).toInt = (gV τ 23 0 188).toInt := congrArg Int32.toInt a57
                  have a59 : gV τ37 23 0 2 = (gV τ 23 0 2) := (show gV τ37 23 0 2 = (gV τ 23 0 2) from gV_put eτ37 (show gV τ28 23 0 2 = (gV τ 23 0 2) from gV_put eτ28 rfl))
                  have q60 : (gV τ37 23 0 2).toInt = (gV τ 23 0 2).toInt := congrArg Int32.toInt a59
                  have a61 : gV τ37 22 0 16 = (gV τ 22 0 16) := (show gV τ37 22 0 16 = (gV τ 22 0 16) from gV_put eτ37 (show gV τ28 22 0 16 = (gV τ 22 0 16) from gV_put eτ28 (gV_self _ _ _ _ _)))
                  have q62 : (gV τ37 22 0 16).toInt = (gV τ 22 0 16).toInt := congrArg Int32.toInt a61
                  have a63 : gV τ37 22 0 6 = 0 := (show gV τ37 22 0 6 = 0 from gV_put eτ37 (gV_self _ _ _ _ _))
                  have q64 : (gV τ37 22 0 6).toInt = 0 := (congrArg Int32.toInt a63).trans kt_0
                  have q65 := kt_150
                  have q66 := kt_0
                  refine m_callV (n := 2) (ci := 11) (st := []) C (c_X12_copyAll l G τ37 (150) (0) i38 (iv_wk kc_150 (by decide)) (iv_wk kc_0 (by decide)) (by omega) (by omega) (by omega) (Or.inr v44)) (by decide) (by decide) rfl rfl rfl q5_38 q5_35 q5_37 q0_35 q1_7 (by decide +kernel) rfl (by decide) (by decide) rfl (Nat.le_of_ble_eq_true rfl) dX12_tower_167 ?_
                  rintro _ τ67 ⟨rfl, i68, f69, h73⟩
                  have g72 : Fr MS_X12_towerS AS_X12_towerS σ τ67 := Fr.call (f39) f69 (by decide)
                  have v74 : StM τ37 150 (SS T N) := PrM.stm (((nD1.putO eτ28 (by decide)).putO eτ37 (by decide)).cast (by omega)) (by omega) (by omega) (by omega) (by omega) (by omega)
                  have u75 : IV (gV τ67 23 0 152) 0 7 := i68.1 23 0 152
                  have u76 : IV (gV τ67 23 0 188) 0 4 := i68.1 23 0 188
                  have u77 : IV (gV τ67 23 0 2) 0 7 := i68.1 23 0 2
                  have a78 : gV τ67 22 0 11 = (gV τ 22 0 11) := (show gV τ67 22 0 11 = (gV τ 22 0 11) from (f69.1 22 0 (11) (by decide) (by decide)).trans a47)
                  have q79 : (gV τ67 22 0 11).toInt = (gV τ 22 0 11).toInt := congrArg Int32.toInt a78
                  have a80 : gV τ67 22 0 12 = (gV τ 22 0 12) := (show gV τ67 22 0 12 = (gV τ 22 0 12) from (f69.1 22 0 (12) (by decide) (by decide)).trans a49)
                  have q81 : (gV τ67 22 0 12).toInt = (gV τ 22 0 12).toInt := congrArg Int32.toInt a80
                  have a82 : gV τ67 22 0 7 = (gV τ 22 0 7) := (show gV τ67 22 0 7 = (gV τ 22 0 7) from (f69.1 22 0 (7) (by decide) (by decide)).trans a51)
                  have q83 : (gV τ67 22 0 7).toInt = (gV τ 22 0 7).toInt := congrArg Int32.toInt a82
                  have a84 : gV τ67 22 0 16 = (gV τ 22 0 16) := (show gV τ67 22 0 16 = (gV τ 22 0 16) from (f69.1 22 0 (16) (by decide) (by decide)).trans a61)
                  have q85 : (gV τ67 22 0 16).toInt = (gV τ 22 0 16).toInt := congrArg Int32.toInt a84
                  have a86 : gV τ67 22 0 6 = 0 := (show gV τ67 22 0 6 = 0 from (f69.1 22 0 (6) (by decide) (by decide)).trans a63)
                  have q87 : (gV τ67 22 0 6).toInt = 0 := (congrArg Int32.toInt a86).trans kt_0
                  have q88 : (gV τ67 23 0 2).toInt = (gV τ37 23 0 152).toInt := congrArg Int32.toInt (h73.2.1 2 (by decide))
                  show MW p l e _ s m args below meth c _ 2 G 0 0 170 [some (.ref (G.1 22 0)), none] [] τ67
                  refine m_aload_n C dX12_tower_170 rfl rfl ?_
                  refine m_iconst (v := 0) C dX12_tower_171 (by decide) ?_
                  refine p_22_9 C q4_125 dX12_tower_172 ?_
                  refine m_tops (fun τ89 eτ89 => ?_)
                  have i90 : Inv τ89 := eτ89 ▸ Inv.put i68 (by decide) (iv_wk kc_0 (by decide))
                  have f91 : Fr MS_X12_towerS AS_X12_towerS σ τ89 := eτ89 ▸ Fr.put (g72) (Or.inl (by decide))
                  have v92 := v41.fresh h73 (by rw [show (150 : Int32).toInt.toNat = 150 by decide]; exact v74) (by decide) eτ89 kt_0
                  refine m_aload_n C dX12_tower_175 rfl rfl ?_
                  refine g_22_0 C q4_116 dX12_tower_176 ?_
                  refine m_iconst (v := 2) C dX12_tower_179 (by decide) ?_
                  refine al_23 C kc_2 (by decide) kn_2 dX12_tower_180 ?_
                  refine m_eqs (w := (gV τ67 23 0 2)) (show gV τ89 23 0 2 = (gV τ67 23 0 2) from gV_put eτ89 rfl) ?_
                  have a93 : gV τ89 22 0 11 = (gV τ 22 0 11) := (show gV τ89 22 0 11 = (gV τ 22 0 11) from gV_put eτ89 a78)
                  have q94 : (gV τ89 22 0 11).toInt = (gV τ 22 0 11).toInt := congrArg Int32.toInt a93
                  have a95 : gV τ89 22 0 12 = (gV τ 22 0 12) := (show gV τ89 22 0 12 = (gV τ 22 0 12) from gV_put eτ89 a80)
                  have q96 : (gV τ89 22 0 12).toInt = (gV τ 22 0 12).toInt := congrArg Int32.toInt a95
                  have a97 : gV τ89 22 0 7 = (gV τ 22 0 7) := (show gV τ89 22 0 7 = (gV τ 22 0 7) from gV_put eτ89 a82)
                  have q98 : (gV τ89 22 0 7).toInt = (gV τ 22 0 7).toInt := congrArg Int32.toInt a97
                  have a99 : gV τ89 22 0 16 = (gV τ 22 0 16) := (show gV τ89 22 0 16 = (gV τ 22 0 16) from gV_put eτ89 a84)
                  have q100 : (gV τ89 22 0 16).toInt = (gV τ 22 0 16).toInt := congrArg Int32.toInt a99
                  have a101 : gV τ89 22 0 6 = 0 := (show gV τ89 22 0 6 = 0 from gV_put eτ89 a86)
                  have q102 : (gV τ89 22 0 6).toInt = 0 := (congrArg Int32.toInt a101).trans kt_0
                  have a103 : gV τ89 23 0 150 = (gV τ67 23 0 150) := (show gV τ89 23 0 150 = (gV τ67 23 0 150) from gV_put eτ89 rfl)
                  have q104 : (gV τ89 23 0 150).toInt = (gV τ67 23 0 150).toInt := congrArg Int32.toInt a103
                  have a105 : gV τ89 23 0 152 = (gV τ67 23 0 152) := (show gV τ89 23 0 152 = (gV τ67 23 0 152) from gV_put eτ89 rfl)
                  have q106 : (gV τ89 23 0 152).toInt = (gV τ67 23 0 152).toInt := congrArg Int32.toInt a105
                  have a107 : gV τ89 23 0 188 = (gV τ67 23 0 188) := (show gV τ89 23 0 188 = (gV τ67 23 0 188) from gV_put eτ89 rfl)
                  have q108 : (gV τ89 23 0 188).toInt = (gV τ67 23 0 188).toInt := congrArg Int32.toInt a107
                  have a109 : gV τ89 23 0 2 = (gV τ67 23 0 2) := (show gV τ89 23 0 2 = (gV τ67 23 0 2) from gV_put eτ89 rfl)
                  have q110 : (gV τ89 23 0 2).toInt = (gV τ67 23 0 2).toInt := congrArg Int32.toInt a109
                  exact m_iret C hr hlk (by decide) (by decide) dX12_tower_181 ⟨_, rfl, i90, f91, (iv_wk u77 (by decide)), ⟨(Or.inr (⟨by omega, by omega, by omega, by omega⟩)), (fun h => absurd h (by omega)), (fun _ => v92)⟩⟩
                · exfalso
                  have q : _ := c45
                  simp only [ti_nle, ti_nlt, ti_le, ti_lt, ti_eq, ti_ne, Classical.not_not, kt_0] at q
                  have q1 := b9; have q2 := kc_0; omega
              · have f112 : x13.toInt ≠ 4 := by
                  have q : _ := c25
                  simp only [ti_nle, ti_nlt, ti_le, ti_lt, ti_eq, ti_ne, Classical.not_not, kt_4] at q
                  omega
                refine m_iconst (v := 1) C dX12_tower_123 (by decide) ?_
                refine m_goto (tgt := 131) C dX12_tower_124 (by decide) ?_
                refine p_22_16 C q4_132 dX12_tower_131 ?_
                refine m_tops (fun τ113 eτ113 => ?_)
                have i114 : Inv τ113 := eτ113 ▸ Inv.putF iτ (by decide) rfl
                have f115 : Fr MS_X12_towerS AS_X12_towerS σ τ113 := eτ113 ▸ Fr.put (fτ) (Or.inl (by decide))
                have v116 : TpM τ113 T N := v_T.put eτ113 (Or.inr (by decide)) (by decide)
                have v117 : MA τ113 S I := v_MA.put iτ eτ113 (Or.inr (by decide)) (by decide) (by decide)
                have v118 : τ113.2.2.1 = τ.2.2.1 := by rw [eτ113]; rfl
                have v119 : LW T N q75 τ113.2.2.1 := by rw [eτ113]; exact nw
                have v120 : CuM T N q75 τ113 := CuM.put n1_ eτ113 (Or.inr (by decide))
                have v121 : Pb τ113 := nb.put eτ113 (Or.inl (by decide))
                refine m_aload_n C dX12_tower_134 rfl rfl ?_
                refine m_iconst (v := 0) C dX12_tower_135 (by decide) ?_
                refine p_22_6 C q4_122 dX12_tower_136 ?_
                refine m_tops (fun τ122 eτ122 => ?_)
                have i123 : Inv τ122 := eτ122 ▸ Inv.put i114 (by decide) (iv_wk kc_0 (by decide))
                have f124 : Fr MS_X12_towerS AS_X12_towerS σ τ122 := eτ122 ▸ Fr.put (f115) (Or.inl (by decide))
                have v126 : MA τ122 S I := v117.put i114 eτ122 (Or.inr (by decide)) (by decide) (by decide)
                have v127 : τ122.2.2.1 = τ.2.2.1 := by rw [eτ122]; exact v118
                have v128 : LW T N q75 τ122.2.2.1 := by rw [eτ122]; exact v119
                have v129 : Pb τ122 := v121.put eτ122 (Or.inl (by decide))
                refine m_aload_n C dX12_tower_139 rfl rfl ?_
                refine g_22_16 C q4_132 dX12_tower_140 ?_
                refine m_eqs (w := 1) (show gV τ122 22 0 16 = 1 from gV_put eτ122 (show gV τ113 22 0 16 = 1 from gV_put eτ113 (gV_self _ _ _ _ _))) ?_
                refine m_if_eq (tgt := 162) C dX12_tower_143 (by decide) (fun c130 => ?_) (fun c130 => ?_)
                · first | exact absurd c130 (by decide) | exact absurd (by decide) c130
                · have f132 : 1 ≠ 0 := by
                    have q : _ := c130
                    simp only [ti_nle, ti_nlt, ti_le, ti_lt, ti_eq, ti_ne, Classical.not_not, kt_1, kt_0] at q
                    omega
                  refine m_aload_n C dX12_tower_146 rfl rfl ?_
                  refine m_aload_n C dX12_tower_147 rfl rfl ?_
                  refine g_22_16 C q4_132 dX12_tower_148 ?_
                  refine m_eqs (w := 1) (show gV τ122 22 0 16 = 1 from gV_put eτ122 (show gV τ113 22 0 16 = 1 from gV_put eτ113 (gV_self _ _ _ _ _))) ?_
                  refine p_22_7 C q4_123 dX12_tower_151 ?_
                  refine m_tops (fun τ133 eτ133 => ?_)
                  have i134 : Inv τ133 := eτ133 ▸ Inv.putF i123 (by decide) rfl
                  have f135 : Fr MS_X12_towerS AS_X12_towerS σ τ133 := eτ133 ▸ Fr.put (f124) (Or.inl (by decide))
                  have v136 : MA τ133 S I := v126.put i123 eτ133 (Or.inr (by decide)) (by decide) (by decide)
                  have v137 : τ133.2.2.1 = τ.2.2.1 := by rw [eτ133]; exact v127
                  have v138 : LW T N q75 τ133.2.2.1 := by rw [eτ133]; exact v128
                  have v139 : Pb τ133 := v129.put eτ133 (Or.inl (by decide))
                  refine m_ldc (v := (-1000100)) C dX12_tower_154 q5_34 ?_
                  refine m_aload_n C dX12_tower_156 rfl rfl ?_
                  refine g_22_12 C q4_128 dX12_tower_157 ?_
                  refine m_eqs (w := (gV τ 22 0 12)) (show gV τ133 22 0 12 = (gV τ 22 0 12) from gV_put eτ133 (show gV τ122 22 0 12 = (gV τ 22 0 12) from gV_put eτ122 (show gV τ113 22 0 12 = (gV τ 22 0 12) from gV_put eτ113 rfl))) ?_
                  have a140 : gV τ133 22 0 11 = (gV τ 22 0 11) := (show gV τ133 22 0 11 = (gV τ 22 0 11) from gV_put eτ133 (show gV τ122 22 0 11 = (gV τ 22 0 11) from gV_put eτ122 (show gV τ113 22 0 11 = (gV τ 22 0 11) from gV_put eτ113 rfl)))
                  have q141 : (gV τ133 22 0 11).toInt = (gV τ 22 0 11).toInt := congrArg Int32.toInt a140
                  have a142 : gV τ133 22 0 12 = (gV τ 22 0 12) := (show gV τ133 22 0 12 = (gV τ 22 0 12) from gV_put eτ133 (show gV τ122 22 0 12 = (gV τ 22 0 12) from gV_put eτ122 (show gV τ113 22 0 12 = (gV τ 22 0 12) from gV_put eτ113 rfl)))
                  have q143 : (gV τ133 22 0 12).toInt = (gV τ 22 0 12).toInt := congrArg Int32.toInt a142
                  have a144 : gV τ133 23 0 150 = (gV τ 23 0 150) := (show gV τ133 23 0 150 = (gV τ 23 0 150) from gV_put eτ133 (show gV τ122 23 0 150 = (gV τ 23 0 150) from gV_put eτ122 (show gV τ113 23 0 150 = (gV τ 23 0 150) from gV_put eτ113 rfl)))
                  have q145 : (gV τ133 23 0 150).toInt = (gV τ 23 0 150).toInt := congrArg Int32.toInt a144
                  have a146 : gV τ133 23 0 152 = (gV τ 23 0 152) := (show gV τ133 23 0 152 = (gV τ 23 0 152) from gV_put eτ133 (show gV τ122 23 0 152 = (gV τ 23 0 152) from gV_put eτ122 (show gV τ113 23 0 152 = (gV τ 23 0 152) from gV_put eτ113 rfl)))
                  have q147 : (gV τ133 23 0 152).toInt = (gV τ 23 0 152).toInt := congrArg Int32.toInt a146
                  have a148 : gV τ133 23 0 188 = (gV τ 23 0 188) := (show gV τ133 23 0 188 = (gV τ 23 0 188) from gV_put eτ133 (show gV τ122 23 0 188 = (gV τ 23 0 188) from gV_put eτ122 (show gV τ113 23 0 188 = (gV τ 23 0 188) from gV_put eτ113 rfl)))
                  have q149 : (gV τ133 23 0 188).toInt = (gV τ 23 0 188).toInt := congrArg Int32.toInt a148
                  have a150 : gV τ133 23 0 2 = (gV τ 23 0 2) := (show gV τ133 23 0 2 = (gV τ 23 0 2) from gV_put eτ133 (show gV τ122 23 0 2 = (gV τ 23 0 2) from gV_put eτ122 (show gV τ113 23 0 2 = (gV τ 23 0 2) from gV_put eτ113 rfl)))
                  have q151 : (gV τ133 23 0 2).toInt = (gV τ 23 0 2).toInt := congrArg Int32.toInt a150
                  have a152 : gV τ133 22 0 16 = 1 := (show gV τ133 22 0 16 = 1 from gV_put eτ133 (show gV τ122 22 0 16 = 1 from gV_put eτ122 (show gV τ113 22 0 16 = 1 from gV_put eτ113 (gV_self _ _ _ _ _))))
                  have q153 : (gV τ133 22 0 16).toInt = 1 := (congrArg Int32.toInt a152).trans kt_1
                  have a154 : gV τ133 22 0 6 = 0 := (show gV τ133 22 0 6 = 0 from gV_put eτ133 (show gV τ122 22 0 6 = 0 from gV_put eτ122 (gV_self _ _ _ _ _)))
                  have q155 : (gV τ133 22 0 6).toInt = 0 := (congrArg Int32.toInt a154).trans kt_0
                  have a156 : gV τ133 22 0 7 = 1 := (show gV τ133 22 0 7 = 1 from gV_put eτ133 (gV_self _ _ _ _ _))
                  have q157 : (gV τ133 22 0 7).toInt = 1 := (congrArg Int32.toInt a156).trans kt_1
                  have b158 : IV (gV τ 22 0 12) 0 400 := ⟨by have q1 := (iv_any (gV τ 22 0 12)); omega, by have q1 := (iv_any (gV τ 22 0 12)); omega⟩
                  refine m_isub C dX12_tower_160 ?_
                  refine m_topi (fun x159 ex159 => ?_)
                  have tx159 : x159.toInt = -1000100 - (gV τ 22 0 12).toInt := by rw [ex159, ti_subv kc_m1000100 b158 (by decide), kt_m1000100]
                  have b160 : IV x159 (-1000500) (-1000100) := by rw [ex159]; exact iv_sub kc_m1000100 b158 (by decide)
                  exact m_iret C hr hlk (by decide) (by decide) dX12_tower_161 ⟨_, rfl, i134, f135, (iv_wk b160 (by decide)), ⟨(Or.inl ⟨by omega, by omega, by omega, by omega⟩), (fun _ => v136), (fun h => absurd h (by omega))⟩⟩
          · have f161 : x13.toInt = 0 := by
              have q : _ := c16
              simp only [ti_nle, ti_nlt, ti_le, ti_lt, ti_eq, ti_ne, Classical.not_not, kt_0] at q
              omega
            have b162 : IV x13 0 0 := ⟨by have q1 := (iv_any x13); have q2 := kc_0; omega, by have q1 := (iv_any x13); have q2 := kc_0; omega⟩
            refine m_aload_n C dX12_tower_89 rfl rfl ?_
            refine g_22_14 C q4_130 dX12_tower_90 ?_
            refine m_topl (fun w163 ew163 => ?_)
            have q164 : tK T N q75 = 1 := by omega
            have q165 : (w163.toInt = 20594117 ↔ tW T N q75 7 = 1) := by rw [ew163]; exact LW.at7 nw q164
            refine m_ldc2 (v := 20594117) C dX12_tower_93 q5_29 ?_
            refine m_lcmp C dX12_tower_96 ?_
            refine m_topi (fun x166 ex166 => ?_)
            have b167 : IV x166 (-1) 1 := by rw [ex166]; rcases lgc w163 20594117 with q | q | q <;> omega
            have f168 := lgc w163 20594117
            rw [← ex166] at f168
            have f170 := kl_20594117
            refine m_if_ne (tgt := 107) C dX12_tower_97 (by decide) (fun c171 => ?_) (fun c171 => ?_)
            · have f172 : x166.toInt ≠ 0 := by
                have q : _ := c171
                simp only [ti_nle, ti_nlt, ti_le, ti_lt, ti_eq, ti_ne, Classical.not_not, kt_0] at q
                omega
              have q173 := nP.no (by omega)
              have q174 : (gV τ 22 0 12).toInt = (tS T q75 : Int) ∧ (gV τ 22 0 12).toInt ≤ 400 := ⟨n1_.1.1, n1_.1.2.2.2.2.2.2⟩
              refine m_aload_n C dX12_tower_107 rfl rfl ?_
              refine m_aload_n C dX12_tower_108 rfl rfl ?_
              refine g_22_16 C q4_132 dX12_tower_109 ?_
              refine m_eqs (w := (gV τ 22 0 16)) rfl ?_
              refine m_if_ne (tgt := 127) C dX12_tower_112 (by decide) (fun c175 => ?_) (fun c175 => ?_)
              · exfalso
                have q : _ := c175
                simp only [ti_nle, ti_nlt, ti_le, ti_lt, ti_eq, ti_ne, Classical.not_not, kt_0] at q
                have q1 := b9; have q2 := kc_0; omega
              · have f177 : (gV τ 22 0 16).toInt = 0 := by
                  have q : _ := c175
                  simp only [ti_nle, ti_nlt, ti_le, ti_lt, ti_eq, ti_ne, Classical.not_not, kt_0] at q
                  omega
                refine m_aload_n C dX12_tower_115 rfl rfl ?_
                refine g_22_13 C q4_129 dX12_tower_116 ?_
                refine m_eqs (w := x13) ex13.symm ?_
                have q178 : (x13.toInt = 0 ↔ tK T N q75 = 1) := by have qc := n1_.1; rw [ex13]; omega
                have q179 : (x13.toInt = 4 ↔ tK T N q75 = 0) := by have qc := n1_.1; rw [ex13]; omega
                refine m_iconst (v := 4) C dX12_tower_119 (by decide) ?_
                refine m_icmp_eq (tgt := 127) C dX12_tower_120 (by decide) (fun c180 => ?_) (fun c180 => ?_)
                · exfalso
                  have q : _ := c180
                  simp only [ti_nle, ti_nlt, ti_le, ti_lt, ti_eq, ti_ne, Classical.not_not, kt_4] at q
                  have q1 := b162; have q2 := kc_4; omega
                · have f182 : x13.toInt ≠ 4 := by
                    have q : _ := c180
                    simp only [ti_nle, ti_nlt, ti_le, ti_lt, ti_eq, ti_ne, Classical.not_not, kt_4] at q
                    omega
                  refine m_iconst (v := 1) C dX12_tower_123 (by decide) ?_
                  refine m_goto (tgt := 131) C dX12_tower_124 (by decide) ?_
                  refine p_22_16 C q4_132 dX12_tower_131 ?_
                  refine m_tops (fun τ183 eτ183 => ?_)
                  have i184 : Inv τ183 := eτ183 ▸ Inv.putF iτ (by decide) rfl
                  have f185 : Fr MS_X12_towerS AS_X12_towerS σ τ183 := eτ183 ▸ Fr.put (fτ) (Or.inl (by decide))
                  have v186 : TpM τ183 T N := v_T.put eτ183 (Or.inr (by decide)) (by decide)
                  have v187 : MA τ183 S I := v_MA.put iτ eτ183 (Or.inr (by decide)) (by decide) (by decide)
                  have v188 : τ183.2.2.1 = τ.2.2.1 := by rw [eτ183]; rfl
                  have v189 : LW T N q75 τ183.2.2.1 := by rw [eτ183]; exact nw
                  have v190 : CuM T N q75 τ183 := CuM.put n1_ eτ183 (Or.inr (by decide))
                  have v191 : Pb τ183 := nb.put eτ183 (Or.inl (by decide))
                  refine m_aload_n C dX12_tower_134 rfl rfl ?_
                  refine m_iconst (v := 0) C dX12_tower_135 (by decide) ?_
                  refine p_22_6 C q4_122 dX12_tower_136 ?_
                  refine m_tops (fun τ192 eτ192 => ?_)
                  have i193 : Inv τ192 := eτ192 ▸ Inv.put i184 (by decide) (iv_wk kc_0 (by decide))
                  have f194 : Fr MS_X12_towerS AS_X12_towerS σ τ192 := eτ192 ▸ Fr.put (f185) (Or.inl (by decide))
                  have v196 : MA τ192 S I := v187.put i184 eτ192 (Or.inr (by decide)) (by decide) (by decide)
                  have v197 : τ192.2.2.1 = τ.2.2.1 := by rw [eτ192]; exact v188
                  have v198 : LW T N q75 τ192.2.2.1 := by rw [eτ192]; exact v189
                  have v199 : Pb τ192 := v191.put eτ192 (Or.inl (by decide))
                  refine m_aload_n C dX12_tower_139 rfl rfl ?_
                  refine g_22_16 C q4_132 dX12_tower_140 ?_
                  refine m_eqs (w := 1) (show gV τ192 22 0 16 = 1 from gV_put eτ192 (show gV τ183 22 0 16 = 1 from gV_put eτ183 (gV_self _ _ _ _ _))) ?_
                  refine m_if_eq (tgt := 162) C dX12_tower_143 (by decide) (fun c200 => ?_) (fun c200 => ?_)
                  · first | exact absurd c200 (by decide) | exact absurd (by decide) c200
                  · have f202 : 1 ≠ 0 := by
                      have q : _ := c200
                      simp only [ti_nle, ti_nlt, ti_le, ti_lt, ti_eq, ti_ne, Classical.not_not, kt_1, kt_0] at q
                      omega
                    refine m_aload_n C dX12_tower_146 rfl rfl ?_
                    refine m_aload_n C dX12_tower_147 rfl rfl ?_
                    refine g_22_16 C q4_132 dX12_tower_148 ?_
                    refine m_eqs (w := 1) (show gV τ192 22 0 16 = 1 from gV_put eτ192 (show gV τ183 22 0 16 = 1 from gV_put eτ183 (gV_self _ _ _ _ _))) ?_
                    refine p_22_7 C q4_123 dX12_tower_151 ?_
                    refine m_tops (fun τ203 eτ203 => ?_)
                    have i204 : Inv τ203 := eτ203 ▸ Inv.putF i193 (by decide) rfl
                    have f205 : Fr MS_X12_towerS AS_X12_towerS σ τ203 := eτ203 ▸ Fr.put (f194) (Or.inl (by decide))
                    have v206 : MA τ203 S I := v196.put i193 eτ203 (Or.inr (by decide)) (by decide) (by decide)
                    have v207 : τ203.2.2.1 = τ.2.2.1 := by rw [eτ203]; exact v197
                    have v208 : LW T N q75 τ203.2.2.1 := by rw [eτ203]; exact v198
                    have v209 : Pb τ203 := v199.put eτ203 (Or.inl (by decide))
                    refine m_ldc (v := (-1000100)) C dX12_tower_154 q5_34 ?_
                    refine m_aload_n C dX12_tower_156 rfl rfl ?_
                    refine g_22_12 C q4_128 dX12_tower_157 ?_
                    refine m_eqs (w := (gV τ 22 0 12)) (show gV τ203 22 0 12 = (gV τ 22 0 12) from gV_put eτ203 (show gV τ192 22 0 12 = (gV τ 22 0 12) from gV_put eτ192 (show gV τ183 22 0 12 = (gV τ 22 0 12) from gV_put eτ183 rfl))) ?_
                    have a210 : gV τ203 22 0 11 = (gV τ 22 0 11) := (show gV τ203 22 0 11 = (gV τ 22 0 11) from gV_put eτ203 (show gV τ192 22 0 11 = (gV τ 22 0 11) from gV_put eτ192 (show gV τ183 22 0 11 = (gV τ 22 0 11) from gV_put eτ183 rfl)))
                    have q211 : (gV τ203 22 0 11).toInt = (gV τ 22 0 11).toInt := congrArg Int32.toInt a210
                    have a212 : gV τ203 22 0 12 = (gV τ 22 0 12) := (show gV τ203 22 0 12 = (gV τ 22 0 12) from gV_put eτ203 (show gV τ192 22 0 12 = (gV τ 22 0 12) from gV_put eτ192 (show gV τ183 22 0 12 = (gV τ 22 0 12) from gV_put eτ183 rfl)))
                    have q213 : (gV τ203 22 0 12).toInt = (gV τ 22 0 12).toInt := congrArg Int32.toInt a212
                    have a214 : gV τ203 23 0 150 = (gV τ 23 0 150) := (show gV τ203 23 0 150 = (gV τ 23 0 150) from gV_put eτ203 (show gV τ192 23 0 150 = (gV τ 23 0 150) from gV_put eτ192 (show gV τ183 23 0 150 = (gV τ 23 0 150) from gV_put eτ183 rfl)))
                    have q215 : (gV τ203 23 0 150).toInt = (gV τ 23 0 150).toInt := congrArg Int32.toInt a214
                    have a216 : gV τ203 23 0 152 = (gV τ 23 0 152) := (show gV τ203 23 0 152 = (gV τ 23 0 152) from gV_put eτ203 (show gV τ192 23 0 152 = (gV τ 23 0 152) from gV_put eτ192 (show gV τ183 23 0 152 = (gV τ 23 0 152) from gV_put eτ183 rfl)))
                    have q217 : (gV τ203 23 0 152).toInt = (gV τ 23 0 152).toInt := congrArg Int32.toInt a216
                    have a218 : gV τ203 23 0 188 = (gV τ 23 0 188) := (show gV τ203 23 0 188 = (gV τ 23 0 188) from gV_put eτ203 (show gV τ192 23 0 188 = (gV τ 23 0 188) from gV_put eτ192 (show gV τ183 23 0 188 = (gV τ 23 0 188) from gV_put eτ183 rfl)))
                    have q219 : (gV τ203 23 0 188).toInt = (gV τ 23 0 188).toInt := congrArg Int32.toInt a218
                    have a220 : gV τ203 23 0 2 = (gV τ 23 0 2) := (show gV τ203 23 0 2 = (gV τ 23 0 2) from gV_put eτ203 (show gV τ192 23 0 2 = (gV τ 23 0 2) from gV_put eτ192 (show gV τ183 23 0 2 = (gV τ 23 0 2) from gV_put eτ183 rfl)))
                    have q221 : (gV τ203 23 0 2).toInt = (gV τ 23 0 2).toInt := congrArg Int32.toInt a220
                    have a222 : gV τ203 22 0 16 = 1 := (show gV τ203 22 0 16 = 1 from gV_put eτ203 (show gV τ192 22 0 16 = 1 from gV_put eτ192 (show gV τ183 22 0 16 = 1 from gV_put eτ183 (gV_self _ _ _ _ _))))
                    have q223 : (gV τ203 22 0 16).toInt = 1 := (congrArg Int32.toInt a222).trans kt_1
                    have a224 : gV τ203 22 0 6 = 0 := (show gV τ203 22 0 6 = 0 from gV_put eτ203 (show gV τ192 22 0 6 = 0 from gV_put eτ192 (gV_self _ _ _ _ _)))
                    have q225 : (gV τ203 22 0 6).toInt = 0 := (congrArg Int32.toInt a224).trans kt_0
                    have a226 : gV τ203 22 0 7 = 1 := (show gV τ203 22 0 7 = 1 from gV_put eτ203 (gV_self _ _ _ _ _))
                    have q227 : (gV τ203 22 0 7).toInt = 1 := (congrArg Int32.toInt a226).trans kt_1
                    have b228 : IV (gV τ 22 0 12) 0 400 := ⟨by have q1 := (iv_any (gV τ 22 0 12)); omega, by have q1 := (iv_any (gV τ 22 0 12)); omega⟩
                    refine m_isub C dX12_tower_160 ?_
                    refine m_topi (fun x229 ex229 => ?_)
                    have tx229 : x229.toInt = -1000100 - (gV τ 22 0 12).toInt := by rw [ex229, ti_subv kc_m1000100 b228 (by decide), kt_m1000100]
                    have b230 : IV x229 (-1000500) (-1000100) := by rw [ex229]; exact iv_sub kc_m1000100 b228 (by decide)
                    exact m_iret C hr hlk (by decide) (by decide) dX12_tower_161 ⟨_, rfl, i204, f205, (iv_wk b230 (by decide)), ⟨(Or.inl ⟨by omega, by omega, by omega, by omega⟩), (fun _ => v206), (fun h => absurd h (by omega))⟩⟩
            · have f231 : x166.toInt = 0 := by
                have q : _ := c171
                simp only [ti_nle, ti_nlt, ti_le, ti_lt, ti_eq, ti_ne, Classical.not_not, kt_0] at q
                omega
              have b232 : IV x166 0 0 := ⟨by have q1 := b167; have q2 := kc_0; omega, by have q1 := b167; have q2 := kc_0; omega⟩
              refine m_aload_n C dX12_tower_100 rfl rfl ?_
              refine m_callV (n := 0) (ci := 11) (st := []) C (c_X12_takeStoneS l G τ T N q75 ((gV τ 23 0 188).toInt.toNat : Nat) (gV τ 23 0 152).toInt.toNat (PP T N)  iτ v_T n1_ (by omega) (by omega) (by omega) nb (by omega) ⟨by omega, nD1⟩) (by decide) (by decide) rfl rfl rfl q5_33 q5_30 q5_32 q0_34 q1_7 (by decide +kernel) rfl (by decide) (by decide) rfl (Nat.le_of_ble_eq_true rfl) dX12_tower_101 ?_
              rintro _ τ233 ⟨rfl, i234, f235, h239⟩
              obtain ⟨h239, h239t0, h239t1⟩ := h239
              have g238 : Fr MS_X12_towerS AS_X12_towerS σ τ233 := Fr.call (fτ) f235 (by decide)
              have v240 : TpM τ233 T N := v_T.fr f235 (by decide) (by decide) (by simp) (by decide)
              have v241 : MA τ233 S I := v_MA.sf iτ f235 h239t0 (by decide) (by decide)
              have u242 : IV (gV τ233 22 0 11) 0 400 := i234.1 22 0 11
              have u243 : IV (gV τ233 23 0 152) 0 7 := i234.1 23 0 152
              have u244 : IV (gV τ233 23 0 188) 0 4 := i234.1 23 0 188
              have u245 : IV (gV τ233 23 0 2) 0 7 := i234.1 23 0 2
              have a246 : gV τ233 22 0 6 = (gV τ 22 0 6) := (show gV τ233 22 0 6 = (gV τ 22 0 6) from (f235.1 22 0 (6) (by decide) (by decide)).trans rfl)
              have q247 : (gV τ233 22 0 6).toInt = (gV τ 22 0 6).toInt := congrArg Int32.toInt a246
              have a248 : gV τ233 22 0 7 = (gV τ 22 0 7) := (show gV τ233 22 0 7 = (gV τ 22 0 7) from (f235.1 22 0 (7) (by decide) (by decide)).trans rfl)
              have q249 : (gV τ233 22 0 7).toInt = (gV τ 22 0 7).toInt := congrArg Int32.toInt a248
              rcases h239 with ⟨h239_0, h239_1, h239_2, h239_3, h239_4, h239_5, h239_6⟩ | ⟨h239_0, h239_1, h239_2, h239_3, h239_4, h239_5, h239_6, h239_7⟩
              · skip
                have q250 := nP.bad (by omega) ⟨by omega, by omega⟩ h239_0
                have b251 : IV (gV τ233 22 0 16) 1 3 := ⟨by omega, by omega⟩
                show MW p l e _ s m args below meth c _ 2 G 0 0 104 [some (.ref (G.1 22 0)), none] [] τ233
                refine m_goto (tgt := 75) C dX12_tower_104 (by decide) ?_
                exact ih75 τ233 (tE T N (tE T N (tE T N (tE T N q75)))) i234 g238 v241 v240 (Or.inr ⟨by omega, by omega, by omega, by omega, by omega, by omega, by omega, by omega⟩) (fun h => absurd h (by omega)) (by omega) (by have q := hm75; omega)
              · skip
                have b252 : IV (gV τ233 22 0 16) 0 0 := ⟨by omega, by omega⟩
                have v253 : CuM T N (tE T N (tE T N (tE T N (tE T N q75)))) τ233 := ⟨h239_3, h239_5⟩
                clear h239_3
                show MW p l e _ s m args below meth c _ 2 G 0 0 104 [some (.ref (G.1 22 0)), none] [] τ233
                refine m_goto (tgt := 75) C dX12_tower_104 (by decide) ?_
                exact ih75 τ233 (tE T N (tE T N (tE T N (tE T N q75)))) i234 g238 v241 v240 (Or.inl ⟨by omega, v253, by omega, h239_6, h239_7, (by rw [show (gV τ233 23 0 152).toInt.toNat = (gV τ 23 0 152).toInt.toNat by omega, show (gV τ233 23 0 188).toInt.toNat = (gV τ 23 0 188).toInt.toNat + 1 by omega]; exact nP.go (by omega) ⟨by omega, by omega⟩ (by omega))⟩) (fun _ => ⟨h239t1.cast (by omega), by omega⟩) (by omega) (by have q := hm75; omega)
      · skip
        have b254 : IV (gV τ 22 0 16) 1 3 := ⟨by omega, by omega⟩
        refine m_aload_n C dX12_tower_75 rfl rfl ?_
        refine g_22_16 C q4_132 dX12_tower_76 ?_
        refine m_eqs (w := (gV τ 22 0 16)) rfl ?_
        refine m_if_ne (tgt := 107) C dX12_tower_79 (by decide) (fun c255 => ?_) (fun c255 => ?_)
        · have f256 : (gV τ 22 0 16).toInt ≠ 0 := by
            have q : _ := c255
            simp only [ti_nle, ti_nlt, ti_le, ti_lt, ti_eq, ti_ne, Classical.not_not, kt_0] at q
            omega
          refine m_aload_n C dX12_tower_107 rfl rfl ?_
          refine m_aload_n C dX12_tower_108 rfl rfl ?_
          refine g_22_16 C q4_132 dX12_tower_109 ?_
          refine m_eqs (w := (gV τ 22 0 16)) rfl ?_
          refine m_if_ne (tgt := 127) C dX12_tower_112 (by decide) (fun c257 => ?_) (fun c257 => ?_)
          · have f258 : (gV τ 22 0 16).toInt ≠ 0 := by
              have q : _ := c257
              simp only [ti_nle, ti_nlt, ti_le, ti_lt, ti_eq, ti_ne, Classical.not_not, kt_0] at q
              omega
            refine m_aload_n C dX12_tower_127 rfl rfl ?_
            refine g_22_16 C q4_132 dX12_tower_128 ?_
            refine m_eqs (w := (gV τ 22 0 16)) rfl ?_
            refine p_22_16 C q4_132 dX12_tower_131 ?_
            refine m_tops (fun τ259 eτ259 => ?_)
            have i260 : Inv τ259 := eτ259 ▸ Inv.putF iτ (by decide) rfl
            have f261 : Fr MS_X12_towerS AS_X12_towerS σ τ259 := eτ259 ▸ Fr.put (fτ) (Or.inl (by decide))
            have v262 : TpM τ259 T N := v_T.put eτ259 (Or.inr (by decide)) (by decide)
            have v263 : MA τ259 S I := v_MA.put iτ eτ259 (Or.inr (by decide)) (by decide) (by decide)
            have v264 : τ259.2.2.1 = τ.2.2.1 := by rw [eτ259]; rfl
            refine m_aload_n C dX12_tower_134 rfl rfl ?_
            refine m_iconst (v := 0) C dX12_tower_135 (by decide) ?_
            refine p_22_6 C q4_122 dX12_tower_136 ?_
            refine m_tops (fun τ265 eτ265 => ?_)
            have i266 : Inv τ265 := eτ265 ▸ Inv.put i260 (by decide) (iv_wk kc_0 (by decide))
            have f267 : Fr MS_X12_towerS AS_X12_towerS σ τ265 := eτ265 ▸ Fr.put (f261) (Or.inl (by decide))
            have v269 : MA τ265 S I := v263.put i260 eτ265 (Or.inr (by decide)) (by decide) (by decide)
            have v270 : τ265.2.2.1 = τ.2.2.1 := by rw [eτ265]; exact v264
            refine m_aload_n C dX12_tower_139 rfl rfl ?_
            refine g_22_16 C q4_132 dX12_tower_140 ?_
            refine m_eqs (w := (gV τ 22 0 16)) (show gV τ265 22 0 16 = (gV τ 22 0 16) from gV_put eτ265 (show gV τ259 22 0 16 = (gV τ 22 0 16) from gV_put eτ259 (gV_self _ _ _ _ _))) ?_
            refine m_if_eq (tgt := 162) C dX12_tower_143 (by decide) (fun c271 => ?_) (fun c271 => ?_)
            · exfalso
              have q : _ := c271
              simp only [ti_nle, ti_nlt, ti_le, ti_lt, ti_eq, ti_ne, Classical.not_not, kt_0] at q
              have q1 := b254; have q2 := kc_0; omega
            · have f273 : (gV τ 22 0 16).toInt ≠ 0 := by
                have q : _ := c271
                simp only [ti_nle, ti_nlt, ti_le, ti_lt, ti_eq, ti_ne, Classical.not_not, kt_0] at q
                omega
              refine m_aload_n C dX12_tower_146 rfl rfl ?_
              refine m_aload_n C dX12_tower_147 rfl rfl ?_
              refine g_22_16 C q4_132 dX12_tower_148 ?_
              refine m_eqs (w := (gV τ 22 0 16)) (show gV τ265 22 0 16 = (gV τ 22 0 16) from gV_put eτ265 (show gV τ259 22 0 16 = (gV τ 22 0 16) from gV_put eτ259 (gV_self _ _ _ _ _))) ?_
              refine p_22_7 C q4_123 dX12_tower_151 ?_
              refine m_tops (fun τ274 eτ274 => ?_)
              have i275 : Inv τ274 := eτ274 ▸ Inv.putF i266 (by decide) rfl
              have f276 : Fr MS_X12_towerS AS_X12_towerS σ τ274 := eτ274 ▸ Fr.put (f267) (Or.inl (by decide))
              have v277 : MA τ274 S I := v269.put i266 eτ274 (Or.inr (by decide)) (by decide) (by decide)
              have v278 : τ274.2.2.1 = τ.2.2.1 := by rw [eτ274]; exact v270
              refine m_ldc (v := (-1000100)) C dX12_tower_154 q5_34 ?_
              refine m_aload_n C dX12_tower_156 rfl rfl ?_
              refine g_22_12 C q4_128 dX12_tower_157 ?_
              refine m_eqs (w := (gV τ 22 0 12)) (show gV τ274 22 0 12 = (gV τ 22 0 12) from gV_put eτ274 (show gV τ265 22 0 12 = (gV τ 22 0 12) from gV_put eτ265 (show gV τ259 22 0 12 = (gV τ 22 0 12) from gV_put eτ259 rfl))) ?_
              have a279 : gV τ274 22 0 11 = (gV τ 22 0 11) := (show gV τ274 22 0 11 = (gV τ 22 0 11) from gV_put eτ274 (show gV τ265 22 0 11 = (gV τ 22 0 11) from gV_put eτ265 (show gV τ259 22 0 11 = (gV τ 22 0 11) from gV_put eτ259 rfl)))
              have q280 : (gV τ274 22 0 11).toInt = (gV τ 22 0 11).toInt := congrArg Int32.toInt a279
              have a281 : gV τ274 22 0 12 = (gV τ 22 0 12) := (show gV τ274 22 0 12 = (gV τ 22 0 12) from gV_put eτ274 (show gV τ265 22 0 12 = (gV τ 22 0 12) from gV_put eτ265 (show gV τ259 22 0 12 = (gV τ 22 0 12) from gV_put eτ259 rfl)))
              have q282 : (gV τ274 22 0 12).toInt = (gV τ 22 0 12).toInt := congrArg Int32.toInt a281
              have a283 : gV τ274 23 0 150 = (gV τ 23 0 150) := (show gV τ274 23 0 150 = (gV τ 23 0 150) from gV_put eτ274 (show gV τ265 23 0 150 = (gV τ 23 0 150) from gV_put eτ265 (show gV τ259 23 0 150 = (gV τ 23 0 150) from gV_put eτ259 rfl)))
              have q284 : (gV τ274 23 0 150).toInt = (gV τ 23 0 150).toInt := congrArg Int32.toInt a283
              have a285 : gV τ274 23 0 152 = (gV τ 23 0 152) := (show gV τ274 23 0 152 = (gV τ 23 0 152) from gV_put eτ274 (show gV τ265 23 0 152 = (gV τ 23 0 152) from gV_put eτ265 (show gV τ259 23 0 152 = (gV τ 23 0 152) from gV_put eτ259 rfl)))
              have q286 : (gV τ274 23 0 152).toInt = (gV τ 23 0 152).toInt := congrArg Int32.toInt a285
              have a287 : gV τ274 23 0 188 = (gV τ 23 0 188) := (show gV τ274 23 0 188 = (gV τ 23 0 188) from gV_put eτ274 (show gV τ265 23 0 188 = (gV τ 23 0 188) from gV_put eτ265 (show gV τ259 23 0 188 = (gV τ 23 0 188) from gV_put eτ259 rfl)))
              have q288 : (gV τ274 23 0 188).toInt = (gV τ 23 0 188).toInt := congrArg Int32.toInt a287
              have a289 : gV τ274 23 0 2 = (gV τ 23 0 2) := (show gV τ274 23 0 2 = (gV τ 23 0 2) from gV_put eτ274 (show gV τ265 23 0 2 = (gV τ 23 0 2) from gV_put eτ265 (show gV τ259 23 0 2 = (gV τ 23 0 2) from gV_put eτ259 rfl)))
              have q290 : (gV τ274 23 0 2).toInt = (gV τ 23 0 2).toInt := congrArg Int32.toInt a289
              have a291 : gV τ274 22 0 16 = (gV τ 22 0 16) := (show gV τ274 22 0 16 = (gV τ 22 0 16) from gV_put eτ274 (show gV τ265 22 0 16 = (gV τ 22 0 16) from gV_put eτ265 (show gV τ259 22 0 16 = (gV τ 22 0 16) from gV_put eτ259 (gV_self _ _ _ _ _))))
              have q292 : (gV τ274 22 0 16).toInt = (gV τ 22 0 16).toInt := congrArg Int32.toInt a291
              have a293 : gV τ274 22 0 6 = 0 := (show gV τ274 22 0 6 = 0 from gV_put eτ274 (show gV τ265 22 0 6 = 0 from gV_put eτ265 (gV_self _ _ _ _ _)))
              have q294 : (gV τ274 22 0 6).toInt = 0 := (congrArg Int32.toInt a293).trans kt_0
              have a295 : gV τ274 22 0 7 = (gV τ 22 0 16) := (show gV τ274 22 0 7 = (gV τ 22 0 16) from gV_put eτ274 (gV_self _ _ _ _ _))
              have q296 : (gV τ274 22 0 7).toInt = (gV τ 22 0 16).toInt := congrArg Int32.toInt a295
              have b297 : IV (gV τ 22 0 12) 0 400 := ⟨by have q1 := (iv_any (gV τ 22 0 12)); omega, by have q1 := (iv_any (gV τ 22 0 12)); omega⟩
              refine m_isub C dX12_tower_160 ?_
              refine m_topi (fun x298 ex298 => ?_)
              have tx298 : x298.toInt = -1000100 - (gV τ 22 0 12).toInt := by rw [ex298, ti_subv kc_m1000100 b297 (by decide), kt_m1000100]
              have b299 : IV x298 (-1000500) (-1000100) := by rw [ex298]; exact iv_sub kc_m1000100 b297 (by decide)
              exact m_iret C hr hlk (by decide) (by decide) dX12_tower_161 ⟨_, rfl, i275, f276, (iv_wk b299 (by decide)), ⟨(Or.inl ⟨by omega, by omega, by omega, by omega⟩), (fun _ => v277), (fun h => absurd h (by omega))⟩⟩
          · exfalso
            have q : _ := c257
            simp only [ti_nle, ti_nlt, ti_le, ti_lt, ti_eq, ti_ne, Classical.not_not, kt_0] at q
            have q1 := b254; have q2 := kc_0; omega
        · exfalso
          have q : _ := c255
          simp only [ti_nle, ti_nlt, ti_le, ti_lt, ti_eq, ti_ne, Classical.not_not, kt_0] at q
          have q1 := b254; have q2 := kc_0; omega
  have J43 : ∀ (n : Nat) (τ : Sg) (q43 : Nat), Inv τ → Fr MS_X12_towerS AS_X12_towerS σ τ → (MA τ S I) → (TpM τ T N) → ((((gV τ 22 0 16).toInt = 0 ∧ CuM T N q43 τ ∧ (gV τ 22 0 11).toInt ≤ (gV τ 22 0 6).toInt ∧ (gV τ 23 0 150).toInt = tV T (tE T N 0) ∧ 4 ≤ (gV τ 23 0 150).toInt ∧ (gV τ 23 0 150).toInt ≤ 32 ∧ (gV τ 23 0 188).toInt = 0 ∧ Pb τ ∧ LW T N q43 τ.2.2.1 ∧ PI_ T N (gV τ 23 0 152).toInt.toNat q43) ∨ ((1 ≤ (gV τ 22 0 16).toInt ∧ (gV τ 22 0 16).toInt ≤ 3) ∧ outF T N = (gV τ 22 0 16).toInt ∧ ((gV τ 22 0 12).toInt = outP T N ∧ 0 ≤ outP T N ∧ (gV τ 22 0 12).toInt ≤ 400) ∧ (gV τ 22 0 11).toInt ≤ (gV τ 22 0 6).toInt ∧ 0 ≤ (gV τ 23 0 152).toInt ∧ (gV τ 23 0 152).toInt ≤ 7 ∧ 0 ≤ (gV τ 23 0 188).toInt ∧ (gV τ 23 0 188).toInt ≤ 4))) → (((gV τ 22 0 16).toInt = 0 → pp T N (gV τ 23 0 152).toInt.toNat = q43 ∧ PrM τ (gV τ 23 0 152).toInt.toNat (PP T N))) → ((gV τ 22 0 7).toInt = (gV σ 22 0 7).toInt) → (2 * (8 - (gV τ 23 0 152).toInt) + 1 - min 1 (max (gV τ 22 0 16).toInt (-(gV τ 22 0 16).toInt))).toNat < n → MW p l e { frames := 4, cells := 0, slots := 0, locals := 92 } s m args below meth c (MQ below (QP G (PI fun r τ => Inv τ ∧ Fr MS_X12_towerS AS_X12_towerS σ τ ∧ IV r (-1000500) 7 ∧ (((r.toInt = -1000100 - outP T N ∧ outF T N ≠ 0 ∧ (gV τ 22 0 7).toInt = outF T N ∧ (gV τ 22 0 6).toInt = 0) ∨ (r.toInt = outN T N ∧ outF T N = 0 ∧ (gV τ 22 0 7).toInt = (gV σ 22 0 7).toInt ∧ (gV τ 22 0 6).toInt = 0)) ∧ (outF T N ≠ 0 → MA τ S I) ∧ (outF T N = 0 → MA τ (SS T N) I)))) args s 0 0 (aG G)) 2 G 0 0 43 [some (.ref (G.1 22 0)), none] [] τ := by
    intro n
    induction n with
    | zero => intro τ q43 iτ fτ v_MA v_T nR nC n302 hm; exact absurd hm (Nat.not_lt_zero _)
    | succ n ih43 =>
      intro τ q43 iτ fτ v_MA v_T nR nC n302 hm43
      have u303 : IV (gV τ 22 0 11) 0 400 := iτ.1 22 0 11
      have u304 : IV (gV τ 22 0 6) 0 400 := iτ.1 22 0 6
      have u305 : IV (gV τ 23 0 152) 0 7 := iτ.1 23 0 152
      have u306 : IV (gV τ 23 0 188) 0 4 := iτ.1 23 0 188
      have u307 : IV (gV τ 23 0 2) 0 7 := iτ.1 23 0 2
      have q308 : (gV τ 22 0 6).toInt = (N : Int) := v_T.1
      have q309 := v_T.2.1
      rcases nR with ⟨n0_, n1_, n2_, n3_, n4_, n5_, n6_, nb, nw, nP⟩ | ⟨n0_, n1_, n2_, n3_, n4_, n5_, n6_, n7_⟩
      · skip
        have b310 : IV (gV τ 22 0 16) 0 0 := ⟨by omega, by omega⟩
        obtain ⟨nD1, nD2⟩ := nC (by omega)
        refine m_aload_n C dX12_tower_43 rfl rfl ?_
        refine g_22_16 C q4_132 dX12_tower_44 ?_
        refine m_eqs (w := (gV τ 22 0 16)) rfl ?_
        refine m_if_ne (tgt := 75) C dX12_tower_47 (by decide) (fun c311 => ?_) (fun c311 => ?_)
        · exfalso
          have q : _ := c311
          simp only [ti_nle, ti_nlt, ti_le, ti_lt, ti_eq, ti_ne, Classical.not_not, kt_0] at q
          have q1 := b310; have q2 := kc_0; omega
        · have f313 : (gV τ 22 0 16).toInt = 0 := by
            have q : _ := c311
            simp only [ti_nle, ti_nlt, ti_le, ti_lt, ti_eq, ti_ne, Classical.not_not, kt_0] at q
            omega
          refine m_aload_n C dX12_tower_50 rfl rfl ?_
          refine g_22_13 C q4_129 dX12_tower_51 ?_
          refine m_topi (fun x314 ex314 => ?_)
          have q315 : (x314.toInt = 0 ↔ tK T N q43 = 1) := by have qc := n1_.1; rw [ex314]; omega
          have q316 : (x314.toInt = 4 ↔ tK T N q43 = 0) := by have qc := n1_.1; rw [ex314]; omega
          refine m_if_ne (tgt := 75) C dX12_tower_54 (by decide) (fun c317 => ?_) (fun c317 => ?_)
          · have f318 : x314.toInt ≠ 0 := by
              have q : _ := c317
              simp only [ti_nle, ti_nlt, ti_le, ti_lt, ti_eq, ti_ne, Classical.not_not, kt_0] at q
              omega
            exact J75 ((2 * (5 - (gV τ 23 0 188).toInt) + 1 - min 1 (max (gV τ 22 0 16).toInt (-(gV τ 22 0 16).toInt))).toNat + 1) τ q43 iτ fτ v_MA v_T (Or.inl ⟨by omega, n1_, by omega, nb, nw, (by rw [show (gV τ 23 0 152).toInt.toNat = (gV τ 23 0 152).toInt.toNat by omega, show (gV τ 23 0 188).toInt.toNat = 0 by omega]; exact nP.no (by omega))⟩) (fun _ => ⟨nD2.cast (by omega), by omega⟩) (by omega) (Nat.lt_succ_self _)
          · have f319 : x314.toInt = 0 := by
              have q : _ := c317
              simp only [ti_nle, ti_nlt, ti_le, ti_lt, ti_eq, ti_ne, Classical.not_not, kt_0] at q
              omega
            have b320 : IV x314 0 0 := ⟨by have q1 := (iv_any x314); have q2 := kc_0; omega, by have q1 := (iv_any x314); have q2 := kc_0; omega⟩
            refine m_aload_n C dX12_tower_57 rfl rfl ?_
            refine g_22_14 C q4_130 dX12_tower_58 ?_
            refine m_topl (fun w321 ew321 => ?_)
            have q322 : tK T N q43 = 1 := by omega
            have q323 : (w321.toInt = 542723566 ↔ tW T N q43 1 = 1) := by rw [ew321]; exact LW.at1 nw q322
            refine m_ldc2 (v := 542723566) C dX12_tower_61 q5_16 ?_
            refine m_lcmp C dX12_tower_64 ?_
            refine m_topi (fun x324 ex324 => ?_)
            have b325 : IV x324 (-1) 1 := by rw [ex324]; rcases lgc w321 542723566 with q | q | q <;> omega
            have f326 := lgc w321 542723566
            rw [← ex324] at f326
            have f328 := kl_542723566
            refine m_if_ne (tgt := 75) C dX12_tower_65 (by decide) (fun c329 => ?_) (fun c329 => ?_)
            · have f330 : x324.toInt ≠ 0 := by
                have q : _ := c329
                simp only [ti_nle, ti_nlt, ti_le, ti_lt, ti_eq, ti_ne, Classical.not_not, kt_0] at q
                omega
              exact J75 ((2 * (5 - (gV τ 23 0 188).toInt) + 1 - min 1 (max (gV τ 22 0 16).toInt (-(gV τ 22 0 16).toInt))).toNat + 1) τ q43 iτ fτ v_MA v_T (Or.inl ⟨by omega, n1_, by omega, nb, nw, (by rw [show (gV τ 23 0 152).toInt.toNat = (gV τ 23 0 152).toInt.toNat by omega, show (gV τ 23 0 188).toInt.toNat = 0 by omega]; exact nP.no (by omega))⟩) (fun _ => ⟨nD2.cast (by omega), by omega⟩) (by omega) (Nat.lt_succ_self _)
            · have f331 : x324.toInt = 0 := by
                have q : _ := c329
                simp only [ti_nle, ti_nlt, ti_le, ti_lt, ti_eq, ti_ne, Classical.not_not, kt_0] at q
                omega
              have b332 : IV x324 0 0 := ⟨by have q1 := b325; have q2 := kc_0; omega, by have q1 := b325; have q2 := kc_0; omega⟩
              refine m_aload_n C dX12_tower_68 rfl rfl ?_
              refine m_callV (n := 0) (ci := 11) (st := []) C (c_X12_takePersonS l G τ T N q43 (tV T (tE T N 0)) ((gV τ 23 0 152).toInt.toNat : Nat)  iτ v_T n1_ (by omega) (by omega) (by omega) nb (by omega) ⟨(by rw [show (((gV τ 23 0 152).toInt.toNat : Nat) : Int).toNat = (gV τ 23 0 152).toInt.toNat by omega]; exact nD1), PrM.cast nD2 (by omega)⟩) (by decide) (by decide) rfl rfl rfl q5_20 q5_17 q5_19 q0_33 q1_7 (by decide +kernel) rfl (by decide) (by decide) rfl (Nat.le_of_ble_eq_true rfl) dX12_tower_69 ?_
              rintro _ τ333 ⟨rfl, i334, f335, h339⟩
              obtain ⟨h339, h339t0, h339t1⟩ := h339
              have g338 : Fr MS_X12_towerS AS_X12_towerS σ τ333 := Fr.call (fτ) f335 (by decide)
              have v340 : TpM τ333 T N := v_T.fr f335 (by decide) (by decide) (by simp) (by decide)
              have v341 : MA τ333 S I := v_MA.sf iτ f335 h339t0 (by decide) (by decide)
              have u342 : IV (gV τ333 22 0 11) 0 400 := i334.1 22 0 11
              have u343 : IV (gV τ333 23 0 152) 0 7 := i334.1 23 0 152
              have u344 : IV (gV τ333 23 0 188) 0 4 := i334.1 23 0 188
              have u345 : IV (gV τ333 23 0 2) 0 7 := i334.1 23 0 2
              have a346 : gV τ333 22 0 6 = (gV τ 22 0 6) := (show gV τ333 22 0 6 = (gV τ 22 0 6) from (f335.1 22 0 (6) (by decide) (by decide)).trans rfl)
              have q347 : (gV τ333 22 0 6).toInt = (gV τ 22 0 6).toInt := congrArg Int32.toInt a346
              have a348 : gV τ333 22 0 7 = (gV τ 22 0 7) := (show gV τ333 22 0 7 = (gV τ 22 0 7) from (f335.1 22 0 (7) (by decide) (by decide)).trans rfl)
              have q349 : (gV τ333 22 0 7).toInt = (gV τ 22 0 7).toInt := congrArg Int32.toInt a348
              rcases h339 with ⟨h339_0, h339_1, h339_2, h339_3, h339_4, h339_5⟩ | ⟨h339_0, h339_1, h339_2, h339_3, h339_4, h339_5, h339_6, h339_7⟩
              · skip
                have q350 := nP.bad (by omega) ⟨by omega, by omega⟩ h339_0
                have b351 : IV (gV τ333 22 0 16) 1 3 := ⟨by omega, by omega⟩
                show MW p l e _ s m args below meth c _ 2 G 0 0 72 [some (.ref (G.1 22 0)), none] [] τ333
                refine m_goto (tgt := 43) C dX12_tower_72 (by decide) ?_
                exact ih43 τ333 (tE T N (tE T N (tE T N (tE T N (tE T N (tE T N q43)))))) i334 g338 v341 v340 (Or.inr ⟨by omega, by omega, by omega, by omega, by omega, by omega, by omega, by omega⟩) (fun h => absurd h (by omega)) (by omega) (by have q := hm43; omega)
              · skip
                have b352 : IV (gV τ333 22 0 16) 0 0 := ⟨by omega, by omega⟩
                have v353 : CuM T N (tE T N (tE T N (tE T N (tE T N (tE T N (tE T N q43)))))) τ333 := ⟨h339_3, h339_5⟩
                clear h339_3
                show MW p l e _ s m args below meth c _ 2 G 0 0 72 [some (.ref (G.1 22 0)), none] [] τ333
                refine m_goto (tgt := 43) C dX12_tower_72 (by decide) ?_
                exact ih43 τ333 (tE T N (tE T N (tE T N (tE T N (tE T N (tE T N q43)))))) i334 g338 v341 v340 (Or.inl ⟨by omega, v353, by omega, by omega, by omega, by omega, by omega, h339_6, h339_7, (by rw [show (gV τ333 23 0 152).toInt.toNat = (gV τ 23 0 152).toInt.toNat + 1 by omega]; exact nP.go (by omega) ⟨by omega, by omega⟩ (by omega))⟩) (fun _ => ⟨by rw [show (gV τ333 23 0 152).toInt.toNat = (gV τ 23 0 152).toInt.toNat + 1 by omega]; show t6 T N (pp T N (gV τ 23 0 152).toInt.toNat) = _; rw [nD1]; rfl, (h339t1 (by omega)).cast (by omega)⟩) (by omega) (by have q := hm43; omega)
      · skip
        have b354 : IV (gV τ 22 0 16) 1 3 := ⟨by omega, by omega⟩
        refine m_aload_n C dX12_tower_43 rfl rfl ?_
        refine g_22_16 C q4_132 dX12_tower_44 ?_
        refine m_eqs (w := (gV τ 22 0 16)) rfl ?_
        refine m_if_ne (tgt := 75) C dX12_tower_47 (by decide) (fun c355 => ?_) (fun c355 => ?_)
        · have f356 : (gV τ 22 0 16).toInt ≠ 0 := by
            have q : _ := c355
            simp only [ti_nle, ti_nlt, ti_le, ti_lt, ti_eq, ti_ne, Classical.not_not, kt_0] at q
            omega
          exact J75 ((2 * (5 - (gV τ 23 0 188).toInt) + 1 - min 1 (max (gV τ 22 0 16).toInt (-(gV τ 22 0 16).toInt))).toNat + 1) τ q43 iτ fτ v_MA v_T (Or.inr ⟨by omega, by omega, by omega, by omega, by omega, by omega, by omega, by omega⟩) (fun h => absurd h (by omega)) (by omega) (Nat.lt_succ_self _)
        · exfalso
          have q : _ := c355
          simp only [ti_nle, ti_nlt, ti_le, ti_lt, ti_eq, ti_ne, Classical.not_not, kt_0] at q
          have q1 := b354; have q2 := kc_0; omega
  have J2 : ∀ (n : Nat) (τ : Sg) (y1 : Int32), Inv τ → Fr MS_X12_towerS AS_X12_towerS σ τ → IV y1 0 50 → (MA τ S I) → (TpM τ T N) → ((3 ≤ y1.toInt → (gV τ 23 0 152).toInt = 0)) → ((39 ≤ y1.toInt → (gV τ 23 0 188).toInt = 0)) → ((gV τ 22 0 7).toInt = (gV σ 22 0 7).toInt) → (50 - y1.toInt).toNat < n → MW p l e { frames := 4, cells := 0, slots := 0, locals := 92 } s m args below meth c (MQ below (QP G (PI fun r τ => Inv τ ∧ Fr MS_X12_towerS AS_X12_towerS σ τ ∧ IV r (-1000500) 7 ∧ (((r.toInt = -1000100 - outP T N ∧ outF T N ≠ 0 ∧ (gV τ 22 0 7).toInt = outF T N ∧ (gV τ 22 0 6).toInt = 0) ∨ (r.toInt = outN T N ∧ outF T N = 0 ∧ (gV τ 22 0 7).toInt = (gV σ 22 0 7).toInt ∧ (gV τ 22 0 6).toInt = 0)) ∧ (outF T N ≠ 0 → MA τ S I) ∧ (outF T N = 0 → MA τ (SS T N) I)))) args s 0 0 (aG G)) 2 G 0 0 2 [some (.ref (G.1 22 0)), some (.int y1)] [] τ := by
    intro n
    induction n with
    | zero => intro τ y1 iτ fτ b_y1 v_MA v_T nz nz2 n358 hm; exact absurd hm (Nat.not_lt_zero _)
    | succ n ih2 =>
      intro τ y1 iτ fτ b_y1 v_MA v_T nz nz2 n358 hm2
      have u359 : IV (gV τ 22 0 11) 0 400 := iτ.1 22 0 11
      have u360 : IV (gV τ 22 0 6) 0 400 := iτ.1 22 0 6
      have u361 : IV (gV τ 23 0 152) 0 7 := iτ.1 23 0 152
      have u362 : IV (gV τ 23 0 188) 0 4 := iτ.1 23 0 188
      have u363 : IV (gV τ 23 0 2) 0 7 := iτ.1 23 0 2
      have q364 : (gV τ 22 0 6).toInt = (N : Int) := v_T.1
      have q365 := v_T.2.1
      refine m_iload_n C dX12_tower_2 rfl rfl ?_
      refine m_bipush (v := 50) C dX12_tower_3 (by decide) ?_
      refine m_icmp_ge (tgt := 25) C dX12_tower_5 (by decide) (fun c366 => ?_) (fun c366 => ?_)
      · have f367 : 50 ≤ y1.toInt := by
          have q : _ := c366
          simp only [ti_nle, ti_nlt, ti_le, ti_lt, ti_eq, ti_ne, Classical.not_not, kt_50] at q
          omega
        have b368 : IV y1 50 50 := ⟨by have q1 := kc_50; have q2 := b_y1; omega, by have q1 := kc_50; have q2 := b_y1; omega⟩
        refine m_aload_n C dX12_tower_25 rfl rfl ?_
        refine m_iconst (v := 0) C dX12_tower_26 (by decide) ?_
        refine p_22_11 C q4_127 dX12_tower_27 ?_
        refine m_tops (fun τ369 eτ369 => ?_)
        have i370 : Inv τ369 := eτ369 ▸ Inv.put iτ (by decide) (iv_wk kc_0 (by decide))
        have f371 : Fr MS_X12_towerS AS_X12_towerS σ τ369 := eτ369 ▸ Fr.put (fτ) (Or.inl (by decide))
        have v372 : TpM τ369 T N := v_T.put eτ369 (Or.inr (by decide)) (by decide)
        have v373 : MA τ369 S I := v_MA.put iτ eτ369 (Or.inr (by decide)) (by decide) (by decide)
        have v374 : τ369.2.2.1 = τ.2.2.1 := by rw [eτ369]; rfl
        refine m_aload_n C dX12_tower_30 rfl rfl ?_
        refine m_iconst (v := 0) C dX12_tower_31 (by decide) ?_
        refine p_22_16 C q4_132 dX12_tower_32 ?_
        refine m_tops (fun τ375 eτ375 => ?_)
        have i376 : Inv τ375 := eτ375 ▸ Inv.putF i370 (by decide) rfl
        have f377 : Fr MS_X12_towerS AS_X12_towerS σ τ375 := eτ375 ▸ Fr.put (f371) (Or.inl (by decide))
        have v378 : TpM τ375 T N := v372.put eτ375 (Or.inr (by decide)) (by decide)
        have v379 : MA τ375 S I := v373.put i370 eτ375 (Or.inr (by decide)) (by decide) (by decide)
        have v380 : τ375.2.2.1 = τ.2.2.1 := by rw [eτ375]; exact v374
        refine m_aload_n C dX12_tower_35 rfl rfl ?_
        have a381 : gV τ375 22 0 12 = (gV τ 22 0 12) := (show gV τ375 22 0 12 = (gV τ 22 0 12) from gV_put eτ375 (show gV τ369 22 0 12 = (gV τ 22 0 12) from gV_put eτ369 rfl))
        have q382 : (gV τ375 22 0 12).toInt = (gV τ 22 0 12).toInt := congrArg Int32.toInt a381
        have a383 : gV τ375 22 0 6 = (gV τ 22 0 6) := (show gV τ375 22 0 6 = (gV τ 22 0 6) from gV_put eτ375 (show gV τ369 22 0 6 = (gV τ 22 0 6) from gV_put eτ369 rfl))
        have q384 : (gV τ375 22 0 6).toInt = (gV τ 22 0 6).toInt := congrArg Int32.toInt a383
        have a385 : gV τ375 22 0 7 = (gV τ 22 0 7) := (show gV τ375 22 0 7 = (gV τ 22 0 7) from gV_put eτ375 (show gV τ369 22 0 7 = (gV τ 22 0 7) from gV_put eτ369 rfl))
        have q386 : (gV τ375 22 0 7).toInt = (gV τ 22 0 7).toInt := congrArg Int32.toInt a385
        have a387 : gV τ375 23 0 150 = (gV τ 23 0 150) := (show gV τ375 23 0 150 = (gV τ 23 0 150) from gV_put eτ375 (show gV τ369 23 0 150 = (gV τ 23 0 150) from gV_put eτ369 rfl))
        have q388 : (gV τ375 23 0 150).toInt = (gV τ 23 0 150).toInt := congrArg Int32.toInt a387
        have a389 : gV τ375 23 0 152 = (gV τ 23 0 152) := (show gV τ375 23 0 152 = (gV τ 23 0 152) from gV_put eτ375 (show gV τ369 23 0 152 = (gV τ 23 0 152) from gV_put eτ369 rfl))
        have q390 : (gV τ375 23 0 152).toInt = (gV τ 23 0 152).toInt := congrArg Int32.toInt a389
        have a391 : gV τ375 23 0 188 = (gV τ 23 0 188) := (show gV τ375 23 0 188 = (gV τ 23 0 188) from gV_put eτ375 (show gV τ369 23 0 188 = (gV τ 23 0 188) from gV_put eτ369 rfl))
        have q392 : (gV τ375 23 0 188).toInt = (gV τ 23 0 188).toInt := congrArg Int32.toInt a391
        have a393 : gV τ375 23 0 2 = (gV τ 23 0 2) := (show gV τ375 23 0 2 = (gV τ 23 0 2) from gV_put eτ375 (show gV τ369 23 0 2 = (gV τ 23 0 2) from gV_put eτ369 rfl))
        have q394 : (gV τ375 23 0 2).toInt = (gV τ 23 0 2).toInt := congrArg Int32.toInt a393
        have a395 : gV τ375 22 0 11 = 0 := (show gV τ375 22 0 11 = 0 from gV_put eτ375 (show gV τ369 22 0 11 = 0 from gV_put eτ369 (gV_self _ _ _ _ _)))
        have q396 : (gV τ375 22 0 11).toInt = 0 := (congrArg Int32.toInt a395).trans kt_0
        have a397 : gV τ375 22 0 16 = 0 := (show gV τ375 22 0 16 = 0 from gV_put eτ375 (gV_self _ _ _ _ _))
        have q398 : (gV τ375 22 0 16).toInt = 0 := (congrArg Int32.toInt a397).trans kt_0
        refine m_callV (n := 0) (ci := 11) (st := []) C (c_X12_nextE l G τ375 T N 0  i376 v378 (by omega)) (by decide) (by decide) rfl rfl rfl q4_231 q4_228 q4_230 q0_28 q1_7 (by decide +kernel) rfl (by decide) (by decide) rfl (Nat.le_of_ble_eq_true rfl) dX12_tower_36 ?_
        rintro _ τ399 ⟨rfl, i400, f401, h405⟩
        have g404 : Fr MS_X12_towerS AS_X12_towerS σ τ399 := Fr.call (f377) f401 (by decide)
        have v406 : TpM τ399 T N := v378.fr f401 (by decide) (by decide) (by simp) (by decide)
        have v407 : MA τ399 S I := v379.fr i376 f401 (by decide) (by decide)
        obtain ⟨h408, h410, v409⟩ := h405
        have v411 : CuM T N 0 τ399 := ⟨h408, h410⟩
        clear h408
        have u412 : IV (gV τ399 22 0 11) 0 400 := i400.1 22 0 11
        have a413 : gV τ399 22 0 6 = (gV τ 22 0 6) := (show gV τ399 22 0 6 = (gV τ 22 0 6) from (f401.1 22 0 (6) (by decide) (by decide)).trans a383)
        have q414 : (gV τ399 22 0 6).toInt = (gV τ 22 0 6).toInt := congrArg Int32.toInt a413
        have a415 : gV τ399 22 0 7 = (gV τ 22 0 7) := (show gV τ399 22 0 7 = (gV τ 22 0 7) from (f401.1 22 0 (7) (by decide) (by decide)).trans a385)
        have q416 : (gV τ399 22 0 7).toInt = (gV τ 22 0 7).toInt := congrArg Int32.toInt a415
        have a417 : gV τ399 23 0 150 = (gV τ 23 0 150) := (show gV τ399 23 0 150 = (gV τ 23 0 150) from (f401.1 23 0 (150) (by decide) (by decide)).trans a387)
        have q418 : (gV τ399 23 0 150).toInt = (gV τ 23 0 150).toInt := congrArg Int32.toInt a417
        have a419 : gV τ399 23 0 152 = (gV τ 23 0 152) := (show gV τ399 23 0 152 = (gV τ 23 0 152) from (f401.1 23 0 (152) (by decide) (by decide)).trans a389)
        have q420 : (gV τ399 23 0 152).toInt = (gV τ 23 0 152).toInt := congrArg Int32.toInt a419
        have a421 : gV τ399 23 0 188 = (gV τ 23 0 188) := (show gV τ399 23 0 188 = (gV τ 23 0 188) from (f401.1 23 0 (188) (by decide) (by decide)).trans a391)
        have q422 : (gV τ399 23 0 188).toInt = (gV τ 23 0 188).toInt := congrArg Int32.toInt a421
        have a423 : gV τ399 23 0 2 = (gV τ 23 0 2) := (show gV τ399 23 0 2 = (gV τ 23 0 2) from (f401.1 23 0 (2) (by decide) (by decide)).trans a393)
        have q424 : (gV τ399 23 0 2).toInt = (gV τ 23 0 2).toInt := congrArg Int32.toInt a423
        have a425 : gV τ399 22 0 16 = 0 := (show gV τ399 22 0 16 = 0 from (f401.1 22 0 (16) (by decide) (by decide)).trans a397)
        have q426 : (gV τ399 22 0 16).toInt = 0 := (congrArg Int32.toInt a425).trans kt_0
        show MW p l e _ s m args below meth c _ 2 G 0 0 39 [some (.ref (G.1 22 0)), some (.int y1)] [] τ399
        refine m_aload_n C dX12_tower_39 rfl rfl ?_
        refine m_callV (n := 0) (ci := 11) (st := []) C (c_X12_takeLawS l G τ399 T N 0  i400 v406 v411.1 (by omega) (by omega) v409) (by decide) (by decide) rfl rfl rfl q5_2 q4_239 q5_1 q0_29 q1_7 (by decide +kernel) rfl (by decide) (by decide) rfl (Nat.le_of_ble_eq_true rfl) dX12_tower_40 ?_
        rintro _ τ427 ⟨rfl, i428, f429, h433⟩
        obtain ⟨h433, h433t0⟩ := h433
        have g432 : Fr MS_X12_towerS AS_X12_towerS σ τ427 := Fr.call (g404) f429 (by decide)
        have v434 : TpM τ427 T N := v406.fr f429 (by decide) (by decide) (by simp) (by decide)
        have v435 : MA τ427 S I := v407.sf i400 f429 h433t0 (by decide) (by decide)
        have u436 : IV (gV τ427 22 0 11) 0 400 := i428.1 22 0 11
        have u437 : IV (gV τ427 23 0 152) 0 7 := i428.1 23 0 152
        have u438 : IV (gV τ427 23 0 188) 0 4 := i428.1 23 0 188
        have u439 : IV (gV τ427 23 0 2) 0 7 := i428.1 23 0 2
        have a440 : gV τ427 22 0 6 = (gV τ 22 0 6) := (show gV τ427 22 0 6 = (gV τ 22 0 6) from (f429.1 22 0 (6) (by decide) (by decide)).trans a413)
        have q441 : (gV τ427 22 0 6).toInt = (gV τ 22 0 6).toInt := congrArg Int32.toInt a440
        have a442 : gV τ427 22 0 7 = (gV τ 22 0 7) := (show gV τ427 22 0 7 = (gV τ 22 0 7) from (f429.1 22 0 (7) (by decide) (by decide)).trans a415)
        have q443 : (gV τ427 22 0 7).toInt = (gV τ 22 0 7).toInt := congrArg Int32.toInt a442
        rcases h433 with ⟨h433_0, h433_1, h433_2, h433_3, h433_4⟩ | ⟨h433_0, h433_1, h433_2, h433_3, h433_4, h433_5, h433_6⟩
        · skip
          have q444 := out_law (T := T) (N := N) (by omega)
          have b445 : IV (gV τ427 22 0 16) 1 3 := ⟨by omega, by omega⟩
          show MW p l e _ s m args below meth c _ 2 G 0 0 43 [some (.ref (G.1 22 0)), some (.int y1)] [] τ427
          refine m_sub (L1 := [some (.ref (G.1 22 0)), none]) ⟨rfl, trivial⟩ ?_
          exact J43 ((2 * (8 - (gV τ427 23 0 152).toInt) + 1 - min 1 (max (gV τ427 22 0 16).toInt (-(gV τ427 22 0 16).toInt))).toNat + 1) τ427 (tE T N (tE T N (tE T N (tE T N 0)))) i428 g432 v435 v434 (Or.inr ⟨by omega, by omega, by omega, by omega, by omega, by omega, by omega, by omega⟩) (fun h => absurd h (by omega)) (by omega) (Nat.lt_succ_self _)
        · skip
          have b446 : IV (gV τ427 22 0 16) 0 0 := ⟨by omega, by omega⟩
          have v447 : CuM T N (tE T N (tE T N (tE T N (tE T N 0)))) τ427 := ⟨h433_3, h433_5⟩
          clear h433_3
          have v448 : Pb τ427 := fun p _ hp => absurd hp (by omega)
          show MW p l e _ s m args below meth c _ 2 G 0 0 43 [some (.ref (G.1 22 0)), some (.int y1)] [] τ427
          refine m_sub (L1 := [some (.ref (G.1 22 0)), none]) ⟨rfl, trivial⟩ ?_
          exact J43 ((2 * (8 - (gV τ427 23 0 152).toInt) + 1 - min 1 (max (gV τ427 22 0 16).toInt (-(gV τ427 22 0 16).toInt))).toNat + 1) τ427 (tE T N (tE T N (tE T N (tE T N 0)))) i428 g432 v435 v434 (Or.inl ⟨by omega, v447, by omega, by omega, by omega, by omega, by omega, v448, h433_6, (by rw [show (gV τ427 23 0 152).toInt.toNat = 0 by omega]; exact PI_.start (by omega))⟩) (fun _ => ⟨by rw [show (gV τ427 23 0 152).toInt.toNat = 0 by omega]; rfl, PrM.zero (by omega)⟩) (by omega) (Nat.lt_succ_self _)
      · have f449 : y1.toInt < 50 := by
          have q : _ := c366
          simp only [ti_nle, ti_nlt, ti_le, ti_lt, ti_eq, ti_ne, Classical.not_not, kt_50] at q
          omega
        have b450 : IV y1 0 49 := ⟨by have q1 := b_y1; have q2 := kc_50; omega, by have q1 := b_y1; have q2 := kc_50; omega⟩
        refine m_aload_n C dX12_tower_8 rfl rfl ?_
        refine g_22_0 C q4_116 dX12_tower_9 ?_
        refine m_sipush (v := 150) C dX12_tower_12 (by decide) ?_
        refine m_iload_n C dX12_tower_15 rfl rfl ?_
        refine m_iadd C dX12_tower_16 ?_
        refine m_topi (fun x451 ex451 => ?_)
        have tx451 : x451.toInt = 150 + y1.toInt := by rw [ex451, ti_addv kc_150 b450 (by decide), kt_150]
        have b452 : IV x451 150 199 := by rw [ex451]; exact iv_add kc_150 b450 (by decide)
        refine m_iconst (v := 0) C dX12_tower_17 (by decide) ?_
        refine as_23 C b452 (by decide) rfl dX12_tower_18 ?_
        refine m_tops (fun τ453 eτ453 => ?_)
        have i454 : Inv τ453 := eτ453 ▸ Inv.putR0 iτ (by omega) kt_0
        have f455 : Fr MS_X12_towerS AS_X12_towerS σ τ453 := eτ453 ▸ Fr.put (fτ) (Or.inr (by decide))
        have v456 : TpM τ453 T N := v_T.put eτ453 (Or.inl (by decide)) (by decide)
        have v457 : MA τ453 S I := v_MA.put23 iτ eτ453 (by omega)
        have v458 : τ453.2.2.1 = τ.2.2.1 := by rw [eτ453]; rfl
        obtain ⟨x459, ex459⟩ : ∃ y : Int32, y = y1 + 1 := ⟨_, rfl⟩
        have tx459 : x459.toInt = y1.toInt + 1 := by rw [ex459, ti_addv b450 kc_1 (by decide), kt_1]
        have b460 : IV x459 1 50 := by rw [ex459]; exact iv_add b450 kc_1 (by decide)
        refine m_iinc (v := x459) (L1 := [some (.ref (G.1 22 0)), some (.int x459)]) C dX12_tower_19 rfl (by rw [ex459]; rfl) (by decide) rfl rfl ?_
        refine m_goto (tgt := 2) C dX12_tower_22 (by decide) ?_
        have a461 : gV τ453 22 0 11 = (gV τ 22 0 11) := (show gV τ453 22 0 11 = (gV τ 22 0 11) from gV_put eτ453 rfl)
        have q462 : (gV τ453 22 0 11).toInt = (gV τ 22 0 11).toInt := congrArg Int32.toInt a461
        have a463 : gV τ453 22 0 12 = (gV τ 22 0 12) := (show gV τ453 22 0 12 = (gV τ 22 0 12) from gV_put eτ453 rfl)
        have q464 : (gV τ453 22 0 12).toInt = (gV τ 22 0 12).toInt := congrArg Int32.toInt a463
        have a465 : gV τ453 22 0 16 = (gV τ 22 0 16) := (show gV τ453 22 0 16 = (gV τ 22 0 16) from gV_put eτ453 rfl)
        have q466 : (gV τ453 22 0 16).toInt = (gV τ 22 0 16).toInt := congrArg Int32.toInt a465
        have a467 : gV τ453 22 0 6 = (gV τ 22 0 6) := (show gV τ453 22 0 6 = (gV τ 22 0 6) from gV_put eτ453 rfl)
        have q468 : (gV τ453 22 0 6).toInt = (gV τ 22 0 6).toInt := congrArg Int32.toInt a467
        have a469 : gV τ453 22 0 7 = (gV τ 22 0 7) := (show gV τ453 22 0 7 = (gV τ 22 0 7) from gV_put eτ453 rfl)
        have q470 : (gV τ453 22 0 7).toInt = (gV τ 22 0 7).toInt := congrArg Int32.toInt a469
        have a471 : gV τ453 23 0 2 = (gV τ 23 0 2) := (show gV τ453 23 0 2 = (gV τ 23 0 2) from (gV_putn eτ453 (Or.inr (Or.inr (nat_ne b452 (by decide))))).trans rfl)
        have q472 : (gV τ453 23 0 2).toInt = (gV τ 23 0 2).toInt := congrArg Int32.toInt a471
        exact ih2 τ453 x459 i454 f455 (iv_wk b460 (by decide)) v457 v456 (fun q => zero152 eτ453 kt_0 (by omega)) (fun q => zero188 eτ453 kt_0 (by omega)) (by omega) (by have q := hm2; omega)
  have u473 : IV (gV σ 22 0 11) 0 400 := hI.1 22 0 11
  have u474 : IV (gV σ 22 0 6) 0 400 := hI.1 22 0 6
  have u475 : IV (gV σ 23 0 152) 0 7 := hI.1 23 0 152
  have u476 : IV (gV σ 23 0 188) 0 4 := hI.1 23 0 188
  have u477 : IV (gV σ 23 0 2) 0 7 := hI.1 23 0 2
  have q478 : (gV σ 22 0 6).toInt = (N : Int) := hT.1
  have q479 := hT.2.1
  refine m_iconst (v := 0) C dX12_tower_0 (by decide) ?_
  refine m_istore_n (L1 := [some (.ref (G.1 22 0)), some (.int 0)]) C dX12_tower_1 rfl (by decide) rfl rfl ?_
  exact J2 ((50 - (0 : Int32).toInt).toNat + 1) σ 0 hI Fr.rf (iv_wk kc_0 (by decide)) hMA hT (by omega) (by omega) (by omega) (Nat.lt_succ_self _)
