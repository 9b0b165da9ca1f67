abbrev MS_X6_readIntoS : List (Nat × Nat) := [(1, 0), (1, 1), (1, 2), (1, 3), (1, 9), (1, 10), (1, 11), (12, 1), (12, 2), (12, 3), (12, 4), (12, 5), (12, 6), (12, 7)]
abbrev AS_X6_readIntoS : List Nat := [2, 3, 4, 5, 6, 99]
set_option maxHeartbeats 4000000 in
set_option maxRecDepth 100000 in
theorem c_X6_readIntoS (l : Launch) (G : Gt) (σ : Sg) (T : Nat → Int) (N : Nat) {j2 : Nat} (hj2 : j2 < 28) (hI : Inv σ) (hT : TpC σ T N) : Mc l G yX6_readInto cX6_readInto 4 (some .boolean) 7 158 8 24 [.ref (G.1 12 0), .ref (G.1 1 j2)] σ (PI fun r τ => Inv τ ∧ Fr MS_X6_readIntoS AS_X6_readIntoS σ τ ∧ IV r 0 1 ∧ (((r.toInt = 0 ∧ outF T N ≠ 0 ∧ (gV τ 12 0 2).toInt = outF T N ∧ ((gV τ 12 0 3).toInt = outP T N ∧ 0 ≤ (gV τ 12 0 3).toInt ∧ (gV τ 12 0 3).toInt ≤ 400) ∧ (gV τ 12 0 1).toInt = 0) ∨ (r.toInt = 1 ∧ outF T N = 0 ∧ (gV τ 12 0 2).toInt = (gV σ 12 0 2).toInt ∧ (gV τ 1 j2 2).toInt = outN T N ∧ (gV τ 12 0 1).toInt = 0)) ∧ SFd j2 σ τ ∧ PGr σ τ ∧ (r.toInt = 1 → StC τ j2 (SS T N)))) := by
  refine Mc.of (L0 := [some (.ref (G.1 12 0)), some (.ref (G.1 1 j2)), none, none]) (by decide) (Nat.le_of_ble_eq_true rfl) rfl ?_
  intro p e s m args below meth c C hr hlk
  have C : Cx p s m args c cX6_readInto 4 "LeanTower$Reader" := C
  have k0 : (0 : Int32).toInt = 0 := by decide
  have k1 : (1 : Int32).toInt = 1 := by decide
  have J54 : ∀ (n : Nat) (τ : Sg) (y2 : Int32) (y3 : Int32) (q54 : Nat), Inv τ → Fr MS_X6_readIntoS AS_X6_readIntoS σ τ → IV y2 0 1 → IV y3 0 5 → (PGr σ τ) → (SFd j2 σ τ) → (TpC τ T N) → (((y2.toInt = 1 ∧ (gV τ 12 0 2).toInt = (gV σ 12 0 2).toInt ∧ ((gV τ 12 0 4).toInt = (tS T q54 : Int) ∧ (gV τ 12 0 5).toInt = (tE T N q54 : Int) ∧ (gV τ 12 0 6).toInt = tK T N q54 ∧ (tK T N q54 = 2 → (gV τ 12 0 7).toInt = tV T q54)) ∧ y3.toInt = (gV τ 1 j2 3).toInt ∧ SI_ T N (gV τ 1 j2 2).toInt.toNat (gV τ 1 j2 3).toInt.toNat q54) ∨ (y2.toInt = 0 ∧ outF T N ≠ 0 ∧ (gV τ 12 0 2).toInt = outF T N ∧ ((gV τ 12 0 3).toInt = outP T N ∧ 0 ≤ (gV τ 12 0 3).toInt ∧ (gV τ 12 0 3).toInt ≤ 400)))) → ((y2.toInt = 1 → PrC τ j2 (gV τ 1 j2 2).toInt.toNat (PP T N) ∧ (gV τ 1 j2 0).toInt = tV T (tE T N 0))) → (5 - y3.toInt).toNat < n → MW p l e { frames := 7, cells := 8, slots := 24, locals := 158 } s m args below meth c (MQ below (QP G (PI fun r τ => Inv τ ∧ Fr MS_X6_readIntoS AS_X6_readIntoS σ τ ∧ IV r 0 1 ∧ (((r.toInt = 0 ∧ outF T N ≠ 0 ∧ (gV τ 12 0 2).toInt = outF T N ∧ ((gV τ 12 0 3).toInt = outP T N ∧ 0 ≤ (gV τ 12 0 3).toInt ∧ (gV τ 12 0 3).toInt ≤ 400) ∧ (gV τ 12 0 1).toInt = 0) ∨ (r.toInt = 1 ∧ outF T N = 0 ∧ (gV τ 12 0 2).toInt = (gV σ 12 0 2).toInt ∧ (gV τ 1 j2 2).toInt = outN T N ∧ (gV τ 12 0 1).toInt = 0)) ∧ SFd j2 σ τ ∧ PGr σ τ ∧ (r.toInt = 1 → StC τ j2 (SS T N))))) args s 8 24 (aG G)) 4 G 8 24 54 [some (.ref (G.1 12 0)), some (.ref (G.1 1 j2)), some (.int y2), some (.int y3)] [] τ := by
    intro n
    induction n with
    | zero => intro τ y2 y3 q54 iτ fτ b_y2 b_y3 v_PG v_SD v_T nR nC hm; exact absurd hm (Nat.not_lt_zero _)
    | succ n ih54 =>
      intro τ y2 y3 q54 iτ fτ b_y2 b_y3 v_PG v_SD v_T nR nC hm54
      have u1 : IV (gV τ 1 j2 2) 0 7 := iτ.1 1 j2 2
      have u2 : IV (gV τ 1 j2 3) 0 4 := iτ.1 1 j2 3
      have u3 : IV (gV τ 12 0 1) 0 400 := iτ.1 12 0 1
      have u4 : IV (gV τ 12 0 4) 0 400 := iτ.1 12 0 4
      have u5 : IV (gV τ 12 0 5) 0 400 := iτ.1 12 0 5
      rcases nR with ⟨n0_, n1_, n2_, n3_, nP⟩ | ⟨n0_, n1_, n2_, n3_⟩
      · have b6 : IV y2 1 1 := ⟨by omega, by omega⟩
        have b7 : IV y3 0 4 := ⟨by omega, by omega⟩
        obtain ⟨nD1, nD2⟩ := nC (by omega)
        refine m_iload_n C dX6_readInto_54 rfl rfl ?_
        refine m_if_eq (tgt := 84) C dX6_readInto_55 (by decide) (fun c8 => ?_) (fun c8 => ?_)
        · exfalso
          have q : _ := c8
          simp only [ti_nle, ti_nlt, ti_le, ti_lt, ti_eq, ti_ne, Classical.not_not, kt_0] at q
          have q1 := b6; have q2 := kc_0; omega
        · have f10 : y2.toInt ≠ 0 := by
            have q : _ := c8
            simp only [ti_nle, ti_nlt, ti_le, ti_lt, ti_eq, ti_ne, Classical.not_not, kt_0] at q
            omega
          refine m_iload_n C dX6_readInto_58 rfl rfl ?_
          refine m_iconst (v := 4) C dX6_readInto_59 (by decide) ?_
          refine m_icmp_gt (tgt := 84) C dX6_readInto_60 (by decide) (fun c11 => ?_) (fun c11 => ?_)
          · exfalso
            have q : _ := c11
            simp only [ti_nle, ti_nlt, ti_le, ti_lt, ti_eq, ti_ne, Classical.not_not, kt_4] at q
            have q1 := b7; have q2 := kc_4; omega
          · have f13 : y3.toInt ≤ 4 := by
              have q : _ := c11
              simp only [ti_nle, ti_nlt, ti_le, ti_lt, ti_eq, ti_ne, Classical.not_not, kt_4] at q
              omega
            refine m_aload_n C dX6_readInto_63 rfl rfl ?_
            refine s_ldc (w := 7) (tx := "") C rfl (by decide) rfl dX6_readInto_64 ?_
            refine m_callV (n := 1) (ci := 5) (st := []) C (c_X6_isWordE l G τ T N q54 (w := 7) (by decide) iτ v_T (by omega)) (by decide) (by decide) rfl rfl rfl q2_89 q2_86 q2_88 q0_7 q1_2 (by decide +kernel) rfl (by decide) (by decide) rfl (Nat.le_of_ble_eq_true rfl) dX6_readInto_66 ?_
            rintro _ τ14 ⟨x17, rfl, i15, f16, b18, h20⟩
            have g19 : Fr MS_X6_readIntoS AS_X6_readIntoS σ τ14 := Fr.call (fτ) f16 (by decide)
            have v21 : TpC τ14 T N := v_T.fr f16 (by decide) (by decide) (by simp) (by decide)
            have v22 : SFd j2 σ τ14 := v_SD.fr f16 (by decide) (by decide)
            have v23 : PGr σ τ14 := v_PG.trans (PGr.fr f16 (by decide))
            have q24 : (gV τ14 1 j2 0).toInt = (gV τ 1 j2 0).toInt := congrArg Int32.toInt (show (gV τ14 1 j2 0) = (gV τ 1 j2 0) from (show gV τ14 1 j2 0 = (gV τ 1 j2 0) from (f16.1 1 j2 (0) (by decide) (by decide)).trans rfl))
            have q25 : (gV τ14 1 j2 2).toInt = (gV τ 1 j2 2).toInt := congrArg Int32.toInt (show (gV τ14 1 j2 2) = (gV τ 1 j2 2) from (show gV τ14 1 j2 2 = (gV τ 1 j2 2) from (f16.1 1 j2 (2) (by decide) (by decide)).trans rfl))
            have q26 : (gV τ14 1 j2 3).toInt = (gV τ 1 j2 3).toInt := congrArg Int32.toInt (show (gV τ14 1 j2 3) = (gV τ 1 j2 3) from (show gV τ14 1 j2 3 = (gV τ 1 j2 3) from (f16.1 1 j2 (3) (by decide) (by decide)).trans rfl))
            have q27 : (gV τ14 12 0 1).toInt = (gV τ 12 0 1).toInt := congrArg Int32.toInt (show (gV τ14 12 0 1) = (gV τ 12 0 1) from (show gV τ14 12 0 1 = (gV τ 12 0 1) from (f16.1 12 0 (1) (by decide) (by decide)).trans rfl))
            have q28 : (gV τ14 12 0 2).toInt = (gV τ 12 0 2).toInt := congrArg Int32.toInt (show (gV τ14 12 0 2) = (gV τ 12 0 2) from (show gV τ14 12 0 2 = (gV τ 12 0 2) from (f16.1 12 0 (2) (by decide) (by decide)).trans rfl))
            have q29 : (gV τ14 12 0 3).toInt = (gV τ 12 0 3).toInt := congrArg Int32.toInt (show (gV τ14 12 0 3) = (gV τ 12 0 3) from (show gV τ14 12 0 3 = (gV τ 12 0 3) from (f16.1 12 0 (3) (by decide) (by decide)).trans rfl))
            have q30 : (gV τ14 12 0 4).toInt = (gV τ 12 0 4).toInt := congrArg Int32.toInt (show (gV τ14 12 0 4) = (gV τ 12 0 4) from (show gV τ14 12 0 4 = (gV τ 12 0 4) from (f16.1 12 0 (4) (by decide) (by decide)).trans rfl))
            have q31 : (gV τ14 12 0 5).toInt = (gV τ 12 0 5).toInt := congrArg Int32.toInt (show (gV τ14 12 0 5) = (gV τ 12 0 5) from (show gV τ14 12 0 5 = (gV τ 12 0 5) from (f16.1 12 0 (5) (by decide) (by decide)).trans rfl))
            have q32 : (gV τ14 12 0 6).toInt = (gV τ 12 0 6).toInt := congrArg Int32.toInt (show (gV τ14 12 0 6) = (gV τ 12 0 6) from (show gV τ14 12 0 6 = (gV τ 12 0 6) from (f16.1 12 0 (6) (by decide) (by decide)).trans rfl))
            have q33 : (gV τ14 12 0 7).toInt = (gV τ 12 0 7).toInt := congrArg Int32.toInt (show (gV τ14 12 0 7) = (gV τ 12 0 7) from (show gV τ14 12 0 7 = (gV τ 12 0 7) from (f16.1 12 0 (7) (by decide) (by decide)).trans rfl))
            rcases h20 with ⟨h20_0, h20_1, h20_2⟩ | ⟨h20_0, h20_1⟩
            · skip
              have b34 : IV x17 1 1 := ⟨by omega, by omega⟩
              show MW p l e _ s m args below meth c _ 4 G 8 24 69 [some (.ref (G.1 12 0)), some (.ref (G.1 1 j2)), some (.int y2), some (.int y3)] [.int x17] τ14
              refine m_if_eq (tgt := 84) C dX6_readInto_69 (by decide) (fun c35 => ?_) (fun c35 => ?_)
              · exfalso
                have q : _ := c35
                simp only [ti_nle, ti_nlt, ti_le, ti_lt, ti_eq, ti_ne, Classical.not_not, kt_0] at q
                have q1 := b34; have q2 := kc_0; omega
              · have f37 : x17.toInt ≠ 0 := by
                  have q : _ := c35
                  simp only [ti_nle, ti_nlt, ti_le, ti_lt, ti_eq, ti_ne, Classical.not_not, kt_0] at q
                  omega
                refine m_aload_n C dX6_readInto_72 rfl rfl ?_
                refine m_aload_n C dX6_readInto_73 rfl rfl ?_
                refine m_callV (n := 1) (ci := 5) (st := []) C (c_X6_readStoneE l G τ14 T N q54 ((gV τ 1 j2 3).toInt.toNat : Nat) (j2 := j2) hj2 i15 v21 (by omega) (by omega)) (by decide) (by decide) rfl rfl rfl q3_0 q2_237 q2_239 q0_13 q1_2 (by decide +kernel) rfl (by decide) (by decide) rfl (Nat.le_of_ble_eq_true rfl) dX6_readInto_74 ?_
                rintro _ τ38 ⟨x41, rfl, i39, f40, b42, h44⟩
                have g43 : Fr MS_X6_readIntoS AS_X6_readIntoS σ τ38 := Fr.call (g19) f40 (by decide)
                have v45 : TpC τ38 T N := v21.fr f40 (by decide) (by decide) (by simp) (by decide)
                have v46 : SFd j2 σ τ38 := v22.fr f40 (by decide) (by decide)
                have v47 : PGr σ τ38 := v23.trans (PGr.fr f40 (by decide))
                have u48 : IV (gV τ38 1 j2 3) 0 4 := i39.1 1 j2 3
                have u49 : IV (gV τ38 12 0 4) 0 400 := i39.1 12 0 4
                have u50 : IV (gV τ38 12 0 5) 0 400 := i39.1 12 0 5
                have q51 : (gV τ38 1 j2 0).toInt = (gV τ 1 j2 0).toInt := congrArg Int32.toInt (show (gV τ38 1 j2 0) = (gV τ 1 j2 0) from (show gV τ38 1 j2 0 = (gV τ 1 j2 0) from (f40.1 1 j2 (0) (by decide) (by decide)).trans (show gV τ14 1 j2 0 = (gV τ 1 j2 0) from (f16.1 1 j2 (0) (by decide) (by decide)).trans rfl)))
                have q52 : (gV τ38 1 j2 2).toInt = (gV τ 1 j2 2).toInt := congrArg Int32.toInt (show (gV τ38 1 j2 2) = (gV τ 1 j2 2) from (show gV τ38 1 j2 2 = (gV τ 1 j2 2) from (f40.1 1 j2 (2) (by decide) (by decide)).trans (show gV τ14 1 j2 2 = (gV τ 1 j2 2) from (f16.1 1 j2 (2) (by decide) (by decide)).trans rfl)))
                have q53 : (gV τ38 12 0 1).toInt = (gV τ 12 0 1).toInt := congrArg Int32.toInt (show (gV τ38 12 0 1) = (gV τ 12 0 1) from (show gV τ38 12 0 1 = (gV τ 12 0 1) from (f40.1 12 0 (1) (by decide) (by decide)).trans (show gV τ14 12 0 1 = (gV τ 12 0 1) from (f16.1 12 0 (1) (by decide) (by decide)).trans rfl)))
                rcases h44 with ⟨h44_0, h44_1, h44_2, h44_3⟩ | ⟨h44_0, h44_1, h44_2, h44_3, h44_4⟩
                · skip
                  have b54 : IV x41 0 0 := ⟨by omega, by omega⟩
                  have q55 := nP.bad (by omega) ⟨by omega, by omega⟩ h44_1
                  show MW p l e _ s m args below meth c _ 4 G 8 24 77 [some (.ref (G.1 12 0)), some (.ref (G.1 1 j2)), some (.int y2), some (.int y3)] [.int x41] τ38
                  refine m_istore_n (L1 := [some (.ref (G.1 12 0)), some (.ref (G.1 1 j2)), some (.int x41), some (.int y3)]) C dX6_readInto_77 rfl (by decide) rfl rfl ?_
                  obtain ⟨x56, ex56⟩ : ∃ y : Int32, y = y3 + 1 := ⟨_, rfl⟩
                  have tx56 : x56.toInt = y3.toInt + 1 := by rw [ex56, ti_addv b7 kc_1 (by decide), kt_1]
                  have b57 : IV x56 1 5 := by rw [ex56]; exact iv_add b7 kc_1 (by decide)
                  refine m_iinc (v := x56) (L1 := [some (.ref (G.1 12 0)), some (.ref (G.1 1 j2)), some (.int x41), some (.int x56)]) C dX6_readInto_78 rfl (by rw [ex56]; rfl) (by decide) rfl rfl ?_
                  refine m_goto (tgt := 54) C dX6_readInto_81 (by decide) ?_
                  refine m_widen (c2 := 8) (s2 := 24) (by omega) (by omega) ?_
                  exact ih54 τ38 x41 x56 (tE T N (tE T N (tE T N (tE T N q54)))) i39 g43 (iv_wk b54 (by decide)) (iv_wk b57 (by decide)) v47 v46 v45 (Or.inr (by exact ⟨by omega, by omega, by omega, by omega⟩)) (fun h => absurd h (by omega)) (by have q := hm54; omega)
                · skip
                  have b58 : IV x41 1 1 := ⟨by omega, by omega⟩
                  show MW p l e _ s m args below meth c _ 4 G 8 24 77 [some (.ref (G.1 12 0)), some (.ref (G.1 1 j2)), some (.int y2), some (.int y3)] [.int x41] τ38
                  refine m_istore_n (L1 := [some (.ref (G.1 12 0)), some (.ref (G.1 1 j2)), some (.int x41), some (.int y3)]) C dX6_readInto_77 rfl (by decide) rfl rfl ?_
                  obtain ⟨x59, ex59⟩ : ∃ y : Int32, y = y3 + 1 := ⟨_, rfl⟩
                  have tx59 : x59.toInt = y3.toInt + 1 := by rw [ex59, ti_addv b7 kc_1 (by decide), kt_1]
                  have b60 : IV x59 1 5 := by rw [ex59]; exact iv_add b7 kc_1 (by decide)
                  refine m_iinc (v := x59) (L1 := [some (.ref (G.1 12 0)), some (.ref (G.1 1 j2)), some (.int x41), some (.int x59)]) C dX6_readInto_78 rfl (by rw [ex59]; rfl) (by decide) rfl rfl ?_
                  refine m_goto (tgt := 54) C dX6_readInto_81 (by decide) ?_
                  refine m_widen (c2 := 8) (s2 := 24) (by omega) (by omega) ?_
                  exact ih54 τ38 x41 x59 (tE T N (tE T N (tE T N (tE T N q54)))) i39 g43 (iv_wk b58 (by decide)) (iv_wk b60 (by decide)) v47 v46 v45 (Or.inl (by exact ⟨by omega, by omega, by omega, by omega, (by rw [show (gV τ38 1 j2 2).toInt.toNat = (gV τ 1 j2 2).toInt.toNat by omega, show (gV τ38 1 j2 3).toInt.toNat = (gV τ 1 j2 3).toInt.toNat + 1 by omega]; exact nP.go (by omega) ⟨by omega, by omega⟩ (by omega))⟩)) (fun _ => ⟨((nD1.fr f16 (PGr.fr f16 (by decide)) (by decide)).fr f40 (PGr.fr f40 (by decide)) (by decide)).cast (by omega), by omega⟩) (by have q := hm54; omega)
            · skip
              have b61 : IV x17 0 0 := ⟨by omega, by omega⟩
              show MW p l e _ s m args below meth c _ 4 G 8 24 69 [some (.ref (G.1 12 0)), some (.ref (G.1 1 j2)), some (.int y2), some (.int y3)] [.int x17] τ14
              refine m_if_eq (tgt := 84) C dX6_readInto_69 (by decide) (fun c62 => ?_) (fun c62 => ?_)
              · have f63 : x17.toInt = 0 := by
                  have q : _ := c62
                  simp only [ti_nle, ti_nlt, ti_le, ti_lt, ti_eq, ti_ne, Classical.not_not, kt_0] at q
                  omega
                refine m_iload_n C dX6_readInto_84 rfl rfl ?_
                refine m_if_eq (tgt := 107) C dX6_readInto_85 (by decide) (fun c64 => ?_) (fun c64 => ?_)
                · exfalso
                  have q : _ := c64
                  simp only [ti_nle, ti_nlt, ti_le, ti_lt, ti_eq, ti_ne, Classical.not_not, kt_0] at q
                  have q1 := b6; have q2 := kc_0; omega
                · have f66 : y2.toInt ≠ 0 := by
                    have q : _ := c64
                    simp only [ti_nle, ti_nlt, ti_le, ti_lt, ti_eq, ti_ne, Classical.not_not, kt_0] at q
                    omega
                  refine m_aload_n C dX6_readInto_88 rfl rfl ?_
                  refine g_12_6 C q1_46 dX6_readInto_89 ?_
                  refine m_eqs (w := (gV τ 12 0 6)) (show gV τ14 12 0 6 = (gV τ 12 0 6) from (f16.1 12 0 (6) (by decide) (by decide)).trans rfl) ?_
                  refine m_if_eq (tgt := 103) C dX6_readInto_92 (by decide) (fun c67 => ?_) (fun c67 => ?_)
                  · have f68 : (gV τ 12 0 6).toInt = 0 := by
                      have q : _ := c67
                      simp only [ti_nle, ti_nlt, ti_le, ti_lt, ti_eq, ti_ne, Classical.not_not, kt_0] at q
                      omega
                    have b69 : IV (gV τ 12 0 6) 0 0 := ⟨by have q1 := (iv_any (gV τ 12 0 6)); have q2 := kc_0; omega, by have q1 := (iv_any (gV τ 12 0 6)); have q2 := kc_0; omega⟩
                    refine m_iconst (v := 1) C dX6_readInto_103 (by decide) ?_
                    refine m_goto (tgt := 108) C dX6_readInto_104 (by decide) ?_
                    refine m_istore_n (L1 := [some (.ref (G.1 12 0)), some (.ref (G.1 1 j2)), some (.int 1), some (.int y3)]) C dX6_readInto_108 rfl (by decide) rfl rfl ?_
                    refine m_aload_n C dX6_readInto_109 rfl rfl ?_
                    refine m_iconst (v := 0) C dX6_readInto_110 (by decide) ?_
                    refine p_12_1 C q1_38 dX6_readInto_111 ?_
                    refine m_tops (fun τ70 eτ70 => ?_)
                    have i71 : Inv τ70 := eτ70 ▸ Inv.put i15 (by decide) (iv_wk kc_0 (by decide))
                    have f72 : Fr MS_X6_readIntoS AS_X6_readIntoS σ τ70 := eτ70 ▸ Fr.put (g19) (Or.inl (by decide))
                    have v74 : SFd j2 σ τ70 := v22.put eτ70 (by decide)
                    have v75 : PGr σ τ70 := v23.trans (PGr.eq (by rw [eτ70]; rfl))
                    refine m_iload_n C dX6_readInto_114 rfl rfl ?_
                    have q76 : (gV τ70 1 j2 0).toInt = (gV τ 1 j2 0).toInt := congrArg Int32.toInt (show (gV τ70 1 j2 0) = (gV τ 1 j2 0) from (show gV τ70 1 j2 0 = (gV τ 1 j2 0) from gV_put eτ70 (show gV τ14 1 j2 0 = (gV τ 1 j2 0) from (f16.1 1 j2 (0) (by decide) (by decide)).trans rfl)))
                    have q77 : (gV τ70 1 j2 2).toInt = (gV τ 1 j2 2).toInt := congrArg Int32.toInt (show (gV τ70 1 j2 2) = (gV τ 1 j2 2) from (show gV τ70 1 j2 2 = (gV τ 1 j2 2) from gV_put eτ70 (show gV τ14 1 j2 2 = (gV τ 1 j2 2) from (f16.1 1 j2 (2) (by decide) (by decide)).trans rfl)))
                    have q78 : (gV τ70 1 j2 3).toInt = (gV τ 1 j2 3).toInt := congrArg Int32.toInt (show (gV τ70 1 j2 3) = (gV τ 1 j2 3) from (show gV τ70 1 j2 3 = (gV τ 1 j2 3) from gV_put eτ70 (show gV τ14 1 j2 3 = (gV τ 1 j2 3) from (f16.1 1 j2 (3) (by decide) (by decide)).trans rfl)))
                    have q79 : (gV τ70 12 0 2).toInt = (gV τ 12 0 2).toInt := congrArg Int32.toInt (show (gV τ70 12 0 2) = (gV τ 12 0 2) from (show gV τ70 12 0 2 = (gV τ 12 0 2) from gV_put eτ70 (show gV τ14 12 0 2 = (gV τ 12 0 2) from (f16.1 12 0 (2) (by decide) (by decide)).trans rfl)))
                    have q80 : (gV τ70 12 0 3).toInt = (gV τ 12 0 3).toInt := congrArg Int32.toInt (show (gV τ70 12 0 3) = (gV τ 12 0 3) from (show gV τ70 12 0 3 = (gV τ 12 0 3) from gV_put eτ70 (show gV τ14 12 0 3 = (gV τ 12 0 3) from (f16.1 12 0 (3) (by decide) (by decide)).trans rfl)))
                    have q81 : (gV τ70 12 0 4).toInt = (gV τ 12 0 4).toInt := congrArg Int32.toInt (show (gV τ70 12 0 4) = (gV τ 12 0 4) from (show gV τ70 12 0 4 = (gV τ 12 0 4) from gV_put eτ70 (show gV τ14 12 0 4 = (gV τ 12 0 4) from (f16.1 12 0 (4) (by decide) (by decide)).trans rfl)))
                    have q82 : (gV τ70 12 0 5).toInt = (gV τ 12 0 5).toInt := congrArg Int32.toInt (show (gV τ70 12 0 5) = (gV τ 12 0 5) from (show gV τ70 12 0 5 = (gV τ 12 0 5) from gV_put eτ70 (show gV τ14 12 0 5 = (gV τ 12 0 5) from (f16.1 12 0 (5) (by decide) (by decide)).trans rfl)))
                    have q83 : (gV τ70 12 0 6).toInt = (gV τ 12 0 6).toInt := congrArg Int32.toInt (show (gV τ70 12 0 6) = (gV τ 12 0 6) from (show gV τ70 12 0 6 = (gV τ 12 0 6) from gV_put eτ70 (show gV τ14 12 0 6 = (gV τ 12 0 6) from (f16.1 12 0 (6) (by decide) (by decide)).trans rfl)))
                    have q84 : (gV τ70 12 0 7).toInt = (gV τ 12 0 7).toInt := congrArg Int32.toInt (show (gV τ70 12 0 7) = (gV τ 12 0 7) from (show gV τ70 12 0 7 = (gV τ 12 0 7) from gV_put eτ70 (show gV τ14 12 0 7 = (gV τ 12 0 7) from (f16.1 12 0 (7) (by decide) (by decide)).trans rfl)))
                    have q85 : (gV τ70 12 0 1).toInt = 0 := (congrArg Int32.toInt (show (gV τ70 12 0 1) = 0 from (show gV τ70 12 0 1 = 0 from gV_put eτ70 (gV_self _ _ _ _ _)))).trans kt_0
                    exact m_zret C hr rfl hlk (by decide) (by decide) dX6_readInto_115 ⟨_, rfl, i71, f72, (iv_wk kc_1 (by decide)), ⟨(by have qk := kt_1; have qn := nP.no (by omega); exact Or.inr ⟨by omega, by omega, by omega, by omega, by omega⟩), v74, v75, (fun _ => by have qn := nP.no (by omega); exact PrC.stc (((nD1.fr f16 (PGr.fr f16 (by decide)) (by decide)).put eτ70).cast (by omega)) (by omega) (by omega) (by omega) (by omega))⟩⟩
                  · have f86 : (gV τ 12 0 6).toInt ≠ 0 := by
                      have q : _ := c67
                      simp only [ti_nle, ti_nlt, ti_le, ti_lt, ti_eq, ti_ne, Classical.not_not, kt_0] at q
                      omega
                    refine m_aload_n C dX6_readInto_95 rfl rfl ?_
                    refine m_iconst (v := 1) C dX6_readInto_96 (by decide) ?_
                    have q87 := kt_1
                    refine m_callV (n := 1) (ci := 5) (st := []) C (c_X6_refuseE l G τ14 (1) i15 ) (by decide) (by decide) rfl rfl rfl q2_141 q2_138 q2_140 q0_8 q1_2 (by decide +kernel) rfl (by decide) (by decide) rfl (Nat.le_of_ble_eq_true rfl) dX6_readInto_97 ?_
                    rintro _ τ88 ⟨x91, rfl, i89, f90, b92, h94⟩
                    have g93 : Fr MS_X6_readIntoS AS_X6_readIntoS σ τ88 := Fr.call (g19) f90 (by decide)
                    have v95 : TpC τ88 T N := v21.fr f90 (by decide) (by decide) (by simp) (by decide)
                    have v96 : SFd j2 σ τ88 := v22.fr f90 (by decide) (by decide)
                    have v97 : PGr σ τ88 := v23.trans (PGr.fr f90 (by decide))
                    have q98 : (gV τ88 1 j2 0).toInt = (gV τ 1 j2 0).toInt := congrArg Int32.toInt (show (gV τ88 1 j2 0) = (gV τ 1 j2 0) from (show gV τ88 1 j2 0 = (gV τ 1 j2 0) from (f90.1 1 j2 (0) (by decide) (by decide)).trans (show gV τ14 1 j2 0 = (gV τ 1 j2 0) from (f16.1 1 j2 (0) (by decide) (by decide)).trans rfl)))
                    have q99 : (gV τ88 1 j2 2).toInt = (gV τ 1 j2 2).toInt := congrArg Int32.toInt (show (gV τ88 1 j2 2) = (gV τ 1 j2 2) from (show gV τ88 1 j2 2 = (gV τ 1 j2 2) from (f90.1 1 j2 (2) (by decide) (by decide)).trans (show gV τ14 1 j2 2 = (gV τ 1 j2 2) from (f16.1 1 j2 (2) (by decide) (by decide)).trans rfl)))
                    have q100 : (gV τ88 1 j2 3).toInt = (gV τ 1 j2 3).toInt := congrArg Int32.toInt (show (gV τ88 1 j2 3) = (gV τ 1 j2 3) from (show gV τ88 1 j2 3 = (gV τ 1 j2 3) from (f90.1 1 j2 (3) (by decide) (by decide)).trans (show gV τ14 1 j2 3 = (gV τ 1 j2 3) from (f16.1 1 j2 (3) (by decide) (by decide)).trans rfl)))
                    have q101 : (gV τ88 12 0 1).toInt = (gV τ 12 0 1).toInt := congrArg Int32.toInt (show (gV τ88 12 0 1) = (gV τ 12 0 1) from (show gV τ88 12 0 1 = (gV τ 12 0 1) from (f90.1 12 0 (1) (by decide) (by decide)).trans (show gV τ14 12 0 1 = (gV τ 12 0 1) from (f16.1 12 0 (1) (by decide) (by decide)).trans rfl)))
                    have q102 : (gV τ88 12 0 4).toInt = (gV τ 12 0 4).toInt := congrArg Int32.toInt (show (gV τ88 12 0 4) = (gV τ 12 0 4) from (show gV τ88 12 0 4 = (gV τ 12 0 4) from (f90.1 12 0 (4) (by decide) (by decide)).trans (show gV τ14 12 0 4 = (gV τ 12 0 4) from (f16.1 12 0 (4) (by decide) (by decide)).trans rfl)))
                    have q103 : (gV τ88 12 0 5).toInt = (gV τ 12 0 5).toInt := congrArg Int32.toInt (show (gV τ88 12 0 5) = (gV τ 12 0 5) from (show gV τ88 12 0 5 = (gV τ 12 0 5) from (f90.1 12 0 (5) (by decide) (by decide)).trans (show gV τ14 12 0 5 = (gV τ 12 0 5) from (f16.1 12 0 (5) (by decide) (by decide)).trans rfl)))
                    have q104 : (gV τ88 12 0 6).toInt = (gV τ 12 0 6).toInt := congrArg Int32.toInt (show (gV τ88 12 0 6) = (gV τ 12 0 6) from (show gV τ88 12 0 6 = (gV τ 12 0 6) from (f90.1 12 0 (6) (by decide) (by decide)).trans (show gV τ14 12 0 6 = (gV τ 12 0 6) from (f16.1 12 0 (6) (by decide) (by decide)).trans rfl)))
                    have q105 : (gV τ88 12 0 7).toInt = (gV τ 12 0 7).toInt := congrArg Int32.toInt (show (gV τ88 12 0 7) = (gV τ 12 0 7) from (show gV τ88 12 0 7 = (gV τ 12 0 7) from (f90.1 12 0 (7) (by decide) (by decide)).trans (show gV τ14 12 0 7 = (gV τ 12 0 7) from (f16.1 12 0 (7) (by decide) (by decide)).trans rfl)))
                    show MW p l e _ s m args below meth c _ 4 G 8 24 100 [some (.ref (G.1 12 0)), some (.ref (G.1 1 j2)), some (.int y2), some (.int y3)] [.int x91] τ88
                    refine m_if_eq (tgt := 107) C dX6_readInto_100 (by decide) (fun c106 => ?_) (fun c106 => ?_)
                    · have f107 : x91.toInt = 0 := by
                        have q : _ := c106
                        simp only [ti_nle, ti_nlt, ti_le, ti_lt, ti_eq, ti_ne, Classical.not_not, kt_0] at q
                        omega
                      refine m_iconst (v := 0) C dX6_readInto_107 (by decide) ?_
                      refine m_istore_n (L1 := [some (.ref (G.1 12 0)), some (.ref (G.1 1 j2)), some (.int 0), some (.int y3)]) C dX6_readInto_108 rfl (by decide) rfl rfl ?_
                      refine m_aload_n C dX6_readInto_109 rfl rfl ?_
                      refine m_iconst (v := 0) C dX6_readInto_110 (by decide) ?_
                      refine p_12_1 C q1_38 dX6_readInto_111 ?_
                      refine m_tops (fun τ108 eτ108 => ?_)
                      have i109 : Inv τ108 := eτ108 ▸ Inv.put i89 (by decide) (iv_wk kc_0 (by decide))
                      have f110 : Fr MS_X6_readIntoS AS_X6_readIntoS σ τ108 := eτ108 ▸ Fr.put (g93) (Or.inl (by decide))
                      have v112 : SFd j2 σ τ108 := v96.put eτ108 (by decide)
                      have v113 : PGr σ τ108 := v97.trans (PGr.eq (by rw [eτ108]; rfl))
                      refine m_iload_n C dX6_readInto_114 rfl rfl ?_
                      have q114 : (gV τ108 1 j2 0).toInt = (gV τ 1 j2 0).toInt := congrArg Int32.toInt (show (gV τ108 1 j2 0) = (gV τ 1 j2 0) from (show gV τ108 1 j2 0 = (gV τ 1 j2 0) from gV_put eτ108 (show gV τ88 1 j2 0 = (gV τ 1 j2 0) from (f90.1 1 j2 (0) (by decide) (by decide)).trans (show gV τ14 1 j2 0 = (gV τ 1 j2 0) from (f16.1 1 j2 (0) (by decide) (by decide)).trans rfl))))
                      have q115 : (gV τ108 1 j2 2).toInt = (gV τ 1 j2 2).toInt := congrArg Int32.toInt (show (gV τ108 1 j2 2) = (gV τ 1 j2 2) from (show gV τ108 1 j2 2 = (gV τ 1 j2 2) from gV_put eτ108 (show gV τ88 1 j2 2 = (gV τ 1 j2 2) from (f90.1 1 j2 (2) (by decide) (by decide)).trans (show gV τ14 1 j2 2 = (gV τ 1 j2 2) from (f16.1 1 j2 (2) (by decide) (by decide)).trans rfl))))
                      have q116 : (gV τ108 1 j2 3).toInt = (gV τ 1 j2 3).toInt := congrArg Int32.toInt (show (gV τ108 1 j2 3) = (gV τ 1 j2 3) from (show gV τ108 1 j2 3 = (gV τ 1 j2 3) from gV_put eτ108 (show gV τ88 1 j2 3 = (gV τ 1 j2 3) from (f90.1 1 j2 (3) (by decide) (by decide)).trans (show gV τ14 1 j2 3 = (gV τ 1 j2 3) from (f16.1 1 j2 (3) (by decide) (by decide)).trans rfl))))
                      have q117 : (gV τ108 12 0 4).toInt = (gV τ 12 0 4).toInt := congrArg Int32.toInt (show (gV τ108 12 0 4) = (gV τ 12 0 4) from (show gV τ108 12 0 4 = (gV τ 12 0 4) from gV_put eτ108 (show gV τ88 12 0 4 = (gV τ 12 0 4) from (f90.1 12 0 (4) (by decide) (by decide)).trans (show gV τ14 12 0 4 = (gV τ 12 0 4) from (f16.1 12 0 (4) (by decide) (by decide)).trans rfl))))
                      have q118 : (gV τ108 12 0 5).toInt = (gV τ 12 0 5).toInt := congrArg Int32.toInt (show (gV τ108 12 0 5) = (gV τ 12 0 5) from (show gV τ108 12 0 5 = (gV τ 12 0 5) from gV_put eτ108 (show gV τ88 12 0 5 = (gV τ 12 0 5) from (f90.1 12 0 (5) (by decide) (by decide)).trans (show gV τ14 12 0 5 = (gV τ 12 0 5) from (f16.1 12 0 (5) (by decide) (by decide)).trans rfl))))
                      have q119 : (gV τ108 12 0 6).toInt = (gV τ 12 0 6).toInt := congrArg Int32.toInt (show (gV τ108 12 0 6) = (gV τ 12 0 6) from (show gV τ108 12 0 6 = (gV τ 12 0 6) from gV_put eτ108 (show gV τ88 12 0 6 = (gV τ 12 0 6) from (f90.1 12 0 (6) (by decide) (by decide)).trans (show gV τ14 12 0 6 = (gV τ 12 0 6) from (f16.1 12 0 (6) (by decide) (by decide)).trans rfl))))
                      have q120 : (gV τ108 12 0 7).toInt = (gV τ 12 0 7).toInt := congrArg Int32.toInt (show (gV τ108 12 0 7) = (gV τ 12 0 7) from (show gV τ108 12 0 7 = (gV τ 12 0 7) from gV_put eτ108 (show gV τ88 12 0 7 = (gV τ 12 0 7) from (f90.1 12 0 (7) (by decide) (by decide)).trans (show gV τ14 12 0 7 = (gV τ 12 0 7) from (f16.1 12 0 (7) (by decide) (by decide)).trans rfl))))
                      have q121 : (gV τ108 12 0 2).toInt = (gV τ88 12 0 2).toInt := congrArg Int32.toInt (show (gV τ108 12 0 2) = (gV τ88 12 0 2) from (show gV τ108 12 0 2 = (gV τ88 12 0 2) from gV_put eτ108 rfl))
                      have q122 : (gV τ108 12 0 3).toInt = (gV τ88 12 0 3).toInt := congrArg Int32.toInt (show (gV τ108 12 0 3) = (gV τ88 12 0 3) from (show gV τ108 12 0 3 = (gV τ88 12 0 3) from gV_put eτ108 rfl))
                      have q123 : (gV τ108 12 0 1).toInt = 0 := (congrArg Int32.toInt (show (gV τ108 12 0 1) = 0 from (show gV τ108 12 0 1 = 0 from gV_put eτ108 (gV_self _ _ _ _ _)))).trans kt_0
                      exact m_zret C hr rfl hlk (by decide) (by decide) dX6_readInto_115 ⟨_, rfl, i109, f110, (iv_wk kc_0 (by decide)), ⟨(by have qk := kt_0; have qn := nP.no (by omega); exact Or.inl ⟨by omega, by omega, by omega, by omega, by omega⟩), v112, v113, (fun h => absurd h (by have qk := kt_0; omega))⟩⟩
                    · exfalso
                      have q : _ := c106
                      simp only [ti_nle, ti_nlt, ti_le, ti_lt, ti_eq, ti_ne, Classical.not_not, kt_0] at q
                      have q1 := b92; have q2 := kc_0; omega
              · exfalso
                have q : _ := c62
                simp only [ti_nle, ti_nlt, ti_le, ti_lt, ti_eq, ti_ne, Classical.not_not, kt_0] at q
                have q1 := b61; have q2 := kc_0; omega
      · have b126 : IV y2 0 0 := ⟨by omega, by omega⟩
        refine m_iload_n C dX6_readInto_54 rfl rfl ?_
        refine m_if_eq (tgt := 84) C dX6_readInto_55 (by decide) (fun c127 => ?_) (fun c127 => ?_)
        · have f128 : y2.toInt = 0 := by
            have q : _ := c127
            simp only [ti_nle, ti_nlt, ti_le, ti_lt, ti_eq, ti_ne, Classical.not_not, kt_0] at q
            omega
          refine m_iload_n C dX6_readInto_84 rfl rfl ?_
          refine m_if_eq (tgt := 107) C dX6_readInto_85 (by decide) (fun c129 => ?_) (fun c129 => ?_)
          · have f130 : y2.toInt = 0 := by
              have q : _ := c129
              simp only [ti_nle, ti_nlt, ti_le, ti_lt, ti_eq, ti_ne, Classical.not_not, kt_0] at q
              omega
            refine m_iconst (v := 0) C dX6_readInto_107 (by decide) ?_
            refine m_istore_n (L1 := [some (.ref (G.1 12 0)), some (.ref (G.1 1 j2)), some (.int 0), some (.int y3)]) C dX6_readInto_108 rfl (by decide) rfl rfl ?_
            refine m_aload_n C dX6_readInto_109 rfl rfl ?_
            refine m_iconst (v := 0) C dX6_readInto_110 (by decide) ?_
            refine p_12_1 C q1_38 dX6_readInto_111 ?_
            refine m_tops (fun τ131 eτ131 => ?_)
            have i132 : Inv τ131 := eτ131 ▸ Inv.put iτ (by decide) (iv_wk kc_0 (by decide))
            have f133 : Fr MS_X6_readIntoS AS_X6_readIntoS σ τ131 := eτ131 ▸ Fr.put (fτ) (Or.inl (by decide))
            have v135 : SFd j2 σ τ131 := v_SD.put eτ131 (by decide)
            have v136 : PGr σ τ131 := v_PG.trans (PGr.eq (by rw [eτ131]; rfl))
            refine m_iload_n C dX6_readInto_114 rfl rfl ?_
            have q137 : (gV τ131 1 j2 0).toInt = (gV τ 1 j2 0).toInt := congrArg Int32.toInt (show (gV τ131 1 j2 0) = (gV τ 1 j2 0) from (show gV τ131 1 j2 0 = (gV τ 1 j2 0) from gV_put eτ131 rfl))
            have q138 : (gV τ131 1 j2 2).toInt = (gV τ 1 j2 2).toInt := congrArg Int32.toInt (show (gV τ131 1 j2 2) = (gV τ 1 j2 2) from (show gV τ131 1 j2 2 = (gV τ 1 j2 2) from gV_put eτ131 rfl))
            have q139 : (gV τ131 1 j2 3).toInt = (gV τ 1 j2 3).toInt := congrArg Int32.toInt (show (gV τ131 1 j2 3) = (gV τ 1 j2 3) from (show gV τ131 1 j2 3 = (gV τ 1 j2 3) from gV_put eτ131 rfl))
            have q140 : (gV τ131 12 0 2).toInt = (gV τ 12 0 2).toInt := congrArg Int32.toInt (show (gV τ131 12 0 2) = (gV τ 12 0 2) from (show gV τ131 12 0 2 = (gV τ 12 0 2) from gV_put eτ131 rfl))
            have q141 : (gV τ131 12 0 3).toInt = (gV τ 12 0 3).toInt := congrArg Int32.toInt (show (gV τ131 12 0 3) = (gV τ 12 0 3) from (show gV τ131 12 0 3 = (gV τ 12 0 3) from gV_put eτ131 rfl))
            have q142 : (gV τ131 12 0 4).toInt = (gV τ 12 0 4).toInt := congrArg Int32.toInt (show (gV τ131 12 0 4) = (gV τ 12 0 4) from (show gV τ131 12 0 4 = (gV τ 12 0 4) from gV_put eτ131 rfl))
            have q143 : (gV τ131 12 0 5).toInt = (gV τ 12 0 5).toInt := congrArg Int32.toInt (show (gV τ131 12 0 5) = (gV τ 12 0 5) from (show gV τ131 12 0 5 = (gV τ 12 0 5) from gV_put eτ131 rfl))
            have q144 : (gV τ131 12 0 6).toInt = (gV τ 12 0 6).toInt := congrArg Int32.toInt (show (gV τ131 12 0 6) = (gV τ 12 0 6) from (show gV τ131 12 0 6 = (gV τ 12 0 6) from gV_put eτ131 rfl))
            have q145 : (gV τ131 12 0 7).toInt = (gV τ 12 0 7).toInt := congrArg Int32.toInt (show (gV τ131 12 0 7) = (gV τ 12 0 7) from (show gV τ131 12 0 7 = (gV τ 12 0 7) from gV_put eτ131 rfl))
            have q146 : (gV τ131 12 0 1).toInt = 0 := (congrArg Int32.toInt (show (gV τ131 12 0 1) = 0 from (show gV τ131 12 0 1 = 0 from gV_put eτ131 (gV_self _ _ _ _ _)))).trans kt_0
            exact m_zret C hr rfl hlk (by decide) (by decide) dX6_readInto_115 ⟨_, rfl, i132, f133, (iv_wk kc_0 (by decide)), ⟨(by have qk := kt_0; exact Or.inl ⟨by omega, by omega, by omega, by omega, by omega⟩), v135, v136, (fun h => absurd h (by have qk := kt_0; omega))⟩⟩
          · exfalso
            have q : _ := c129
            simp only [ti_nle, ti_nlt, ti_le, ti_lt, ti_eq, ti_ne, Classical.not_not, kt_0] at q
            have q1 := b126; have q2 := kc_0; omega
        · exfalso
          have q : _ := c127
          simp only [ti_nle, ti_nlt, ti_le, ti_lt, ti_eq, ti_ne, Classical.not_not, kt_0] at q
          have q1 := b126; have q2 := kc_0; omega
  have J52 : ∀ (τ : Sg) (y2 : Int32) (q52 : Nat), Inv τ → Fr MS_X6_readIntoS AS_X6_readIntoS σ τ → IV y2 0 1 → (PGr σ τ) → (SFd j2 σ τ) → (TpC τ T N) → (((y2.toInt = 1 ∧ (gV τ 12 0 2).toInt = (gV σ 12 0 2).toInt ∧ ((gV τ 12 0 4).toInt = (tS T q52 : Int) ∧ (gV τ 12 0 5).toInt = (tE T N q52 : Int) ∧ (gV τ 12 0 6).toInt = tK T N q52 ∧ (tK T N q52 = 2 → (gV τ 12 0 7).toInt = tV T q52)) ∧ (gV τ 1 j2 3).toInt = 0 ∧ SI_ T N (gV τ 1 j2 2).toInt.toNat (gV τ 1 j2 3).toInt.toNat q52) ∨ (y2.toInt = 0 ∧ outF T N ≠ 0 ∧ (gV τ 12 0 2).toInt = outF T N ∧ ((gV τ 12 0 3).toInt = outP T N ∧ 0 ≤ (gV τ 12 0 3).toInt ∧ (gV τ 12 0 3).toInt ≤ 400)))) → ((y2.toInt = 1 → PrC τ j2 (gV τ 1 j2 2).toInt.toNat (PP T N) ∧ (gV τ 1 j2 0).toInt = tV T (tE T N 0))) → MW p l e { frames := 7, cells := 8, slots := 24, locals := 158 } s m args below meth c (MQ below (QP G (PI fun r τ => Inv τ ∧ Fr MS_X6_readIntoS AS_X6_readIntoS σ τ ∧ IV r 0 1 ∧ (((r.toInt = 0 ∧ outF T N ≠ 0 ∧ (gV τ 12 0 2).toInt = outF T N ∧ ((gV τ 12 0 3).toInt = outP T N ∧ 0 ≤ (gV τ 12 0 3).toInt ∧ (gV τ 12 0 3).toInt ≤ 400) ∧ (gV τ 12 0 1).toInt = 0) ∨ (r.toInt = 1 ∧ outF T N = 0 ∧ (gV τ 12 0 2).toInt = (gV σ 12 0 2).toInt ∧ (gV τ 1 j2 2).toInt = outN T N ∧ (gV τ 12 0 1).toInt = 0)) ∧ SFd j2 σ τ ∧ PGr σ τ ∧ (r.toInt = 1 → StC τ j2 (SS T N))))) args s 8 24 (aG G)) 4 G 8 24 52 [some (.ref (G.1 12 0)), some (.ref (G.1 1 j2)), some (.int y2), none] [] τ := by
    intro τ y2 q52 iτ fτ b_y2 v_PG v_SD v_T nR nC
    have u149 : IV (gV τ 1 j2 2) 0 7 := iτ.1 1 j2 2
    have u150 : IV (gV τ 1 j2 3) 0 4 := iτ.1 1 j2 3
    have u151 : IV (gV τ 12 0 1) 0 400 := iτ.1 12 0 1
    have u152 : IV (gV τ 12 0 4) 0 400 := iτ.1 12 0 4
    have u153 : IV (gV τ 12 0 5) 0 400 := iτ.1 12 0 5
    rcases nR with ⟨n0_, n1_, n2_, n3_, nP⟩ | ⟨n0_, n1_, n2_, n3_⟩
    · have b154 : IV y2 1 1 := ⟨by omega, by omega⟩
      obtain ⟨nD1, nD2⟩ := nC (by omega)
      refine m_iconst (v := 0) C dX6_readInto_52 (by decide) ?_
      refine m_istore_n (L1 := [some (.ref (G.1 12 0)), some (.ref (G.1 1 j2)), some (.int y2), some (.int 0)]) C dX6_readInto_53 rfl (by decide) rfl rfl ?_
      refine m_widen (c2 := 8) (s2 := 24) (by omega) (by omega) ?_
      exact J54 ((5 - (0 : Int32).toInt).toNat + 1) τ y2 0 q52 iτ fτ (iv_wk b154 (by decide)) (iv_wk kc_0 (by decide)) v_PG v_SD v_T (Or.inl (by have q3_ := kt_0; exact ⟨by omega, by omega, by omega, by omega, (by rw [show (gV τ 1 j2 2).toInt.toNat = (gV τ 1 j2 2).toInt.toNat by omega, show (gV τ 1 j2 3).toInt.toNat = (gV τ 1 j2 3).toInt.toNat by omega]; exact nP)⟩)) (fun _ => ⟨nD1.cast (by omega), by omega⟩) (Nat.lt_succ_self _)
    · have b155 : IV y2 0 0 := ⟨by omega, by omega⟩
      refine m_iconst (v := 0) C dX6_readInto_52 (by decide) ?_
      refine m_istore_n (L1 := [some (.ref (G.1 12 0)), some (.ref (G.1 1 j2)), some (.int y2), some (.int 0)]) C dX6_readInto_53 rfl (by decide) rfl rfl ?_
      refine m_widen (c2 := 8) (s2 := 24) (by omega) (by omega) ?_
      exact J54 ((5 - (0 : Int32).toInt).toNat + 1) τ y2 0 q52 iτ fτ (iv_wk b155 (by decide)) (iv_wk kc_0 (by decide)) v_PG v_SD v_T (Or.inr (by have q3_ := kt_0; exact ⟨by omega, by omega, by omega, by omega⟩)) (fun h => absurd h (by have q3_ := kt_0; omega)) (Nat.lt_succ_self _)
  have J21 : ∀ (n : Nat) (τ : Sg) (y2 : Int32) (y3 : Int32) (q21 : Nat), Inv τ → Fr MS_X6_readIntoS AS_X6_readIntoS σ τ → IV y2 0 1 → IV y3 0 8 → (PGr σ τ) → (SFd j2 σ τ) → (TpC τ T N) → (((y2.toInt = 1 ∧ (gV τ 12 0 2).toInt = (gV σ 12 0 2).toInt ∧ ((gV τ 12 0 4).toInt = (tS T q21 : Int) ∧ (gV τ 12 0 5).toInt = (tE T N q21 : Int) ∧ (gV τ 12 0 6).toInt = tK T N q21 ∧ (tK T N q21 = 2 → (gV τ 12 0 7).toInt = tV T q21)) ∧ (gV τ 1 j2 0).toInt = tV T (tE T N 0) ∧ 4 ≤ (gV τ 1 j2 0).toInt ∧ (gV τ 1 j2 0).toInt ≤ 32 ∧ y3.toInt = (gV τ 1 j2 2).toInt ∧ (gV τ 1 j2 3).toInt = 0 ∧ PI_ T N (gV τ 1 j2 2).toInt.toNat q21) ∨ (y2.toInt = 0 ∧ outF T N ≠ 0 ∧ (gV τ 12 0 2).toInt = outF T N ∧ ((gV τ 12 0 3).toInt = outP T N ∧ 0 ≤ (gV τ 12 0 3).toInt ∧ (gV τ 12 0 3).toInt ≤ 400)))) → ((y2.toInt = 1 → pp T N (gV τ 1 j2 2).toInt.toNat = q21 ∧ PrC τ j2 (gV τ 1 j2 2).toInt.toNat (PP T N))) → (8 - y3.toInt).toNat < n → MW p l e { frames := 7, cells := 8, slots := 24, locals := 158 } s m args below meth c (MQ below (QP G (PI fun r τ => Inv τ ∧ Fr MS_X6_readIntoS AS_X6_readIntoS σ τ ∧ IV r 0 1 ∧ (((r.toInt = 0 ∧ outF T N ≠ 0 ∧ (gV τ 12 0 2).toInt = outF T N ∧ ((gV τ 12 0 3).toInt = outP T N ∧ 0 ≤ (gV τ 12 0 3).toInt ∧ (gV τ 12 0 3).toInt ≤ 400) ∧ (gV τ 12 0 1).toInt = 0) ∨ (r.toInt = 1 ∧ outF T N = 0 ∧ (gV τ 12 0 2).toInt = (gV σ 12 0 2).toInt ∧ (gV τ 1 j2 2).toInt = outN T N ∧ (gV τ 12 0 1).toInt = 0)) ∧ SFd j2 σ τ ∧ PGr σ τ ∧ (r.toInt = 1 → StC τ j2 (SS T N))))) args s 8 24 (aG G)) 4 G (y3.toInt.toNat) (3 * y3.toInt.toNat) 21 [some (.ref (G.1 12 0)), some (.ref (G.1 1 j2)), some (.int y2), some (.int y3)] [] τ := by
    intro n
    induction n with
    | zero => intro τ y2 y3 q21 iτ fτ b_y2 b_y3 v_PG v_SD v_T nR nC hm; exact absurd hm (Nat.not_lt_zero _)
    | succ n ih21 =>
      intro τ y2 y3 q21 iτ fτ b_y2 b_y3 v_PG v_SD v_T nR nC hm21
      have u156 : IV (gV τ 1 j2 2) 0 7 := iτ.1 1 j2 2
      have u157 : IV (gV τ 1 j2 3) 0 4 := iτ.1 1 j2 3
      have u158 : IV (gV τ 12 0 1) 0 400 := iτ.1 12 0 1
      have u159 : IV (gV τ 12 0 4) 0 400 := iτ.1 12 0 4
      have u160 : IV (gV τ 12 0 5) 0 400 := iτ.1 12 0 5
      rcases nR with ⟨n0_, n1_, n2_, n3_, n4_, n5_, n6_, n7_, nP⟩ | ⟨n0_, n1_, n2_, n3_⟩
      · have b161 : IV y2 1 1 := ⟨by omega, by omega⟩
        have b162 : IV y3 0 7 := ⟨by omega, by omega⟩
        obtain ⟨nD1, nD2⟩ := nC (by omega)
        refine m_iload_n C dX6_readInto_21 rfl rfl ?_
        refine m_if_eq (tgt := 52) C dX6_readInto_22 (by decide) (fun c163 => ?_) (fun c163 => ?_)
        · exfalso
          have q : _ := c163
          simp only [ti_nle, ti_nlt, ti_le, ti_lt, ti_eq, ti_ne, Classical.not_not, kt_0] at q
          have q1 := b161; have q2 := kc_0; omega
        · have f165 : y2.toInt ≠ 0 := by
            have q : _ := c163
            simp only [ti_nle, ti_nlt, ti_le, ti_lt, ti_eq, ti_ne, Classical.not_not, kt_0] at q
            omega
          refine m_iload_n C dX6_readInto_25 rfl rfl ?_
          refine m_bipush (v := 7) C dX6_readInto_26 (by decide) ?_
          refine m_icmp_gt (tgt := 52) C dX6_readInto_28 (by decide) (fun c166 => ?_) (fun c166 => ?_)
          · exfalso
            have q : _ := c166
            simp only [ti_nle, ti_nlt, ti_le, ti_lt, ti_eq, ti_ne, Classical.not_not, kt_7] at q
            have q1 := b162; have q2 := kc_7; omega
          · have f168 : y3.toInt ≤ 7 := by
              have q : _ := c166
              simp only [ti_nle, ti_nlt, ti_le, ti_lt, ti_eq, ti_ne, Classical.not_not, kt_7] at q
              omega
            refine m_aload_n C dX6_readInto_31 rfl rfl ?_
            refine s_ldc (w := 1) (tx := "") C rfl (by decide) rfl dX6_readInto_32 ?_
            refine m_callV (n := 1) (ci := 5) (st := []) C (c_X6_isWordE l G τ T N q21 (w := 1) (by decide) iτ v_T (by omega)) (by decide) (by decide) rfl rfl rfl q2_89 q2_86 q2_88 q0_7 q1_2 (by decide +kernel) rfl (by decide) ⟨by show (y3.toInt.toNat) + 0 ≤ 8; omega, by show (3 * y3.toInt.toNat) + 0 ≤ 24; omega⟩ rfl (Nat.le_of_ble_eq_true rfl) dX6_readInto_34 ?_
            rintro _ τ169 ⟨x172, rfl, i170, f171, b173, h175⟩
            have g174 : Fr MS_X6_readIntoS AS_X6_readIntoS σ τ169 := Fr.call (fτ) f171 (by decide)
            have v176 : TpC τ169 T N := v_T.fr f171 (by decide) (by decide) (by simp) (by decide)
            have v177 : SFd j2 σ τ169 := v_SD.fr f171 (by decide) (by decide)
            have v178 : PGr σ τ169 := v_PG.trans (PGr.fr f171 (by decide))
            have q179 : (gV τ169 1 j2 0).toInt = (gV τ 1 j2 0).toInt := congrArg Int32.toInt (show (gV τ169 1 j2 0) = (gV τ 1 j2 0) from (show gV τ169 1 j2 0 = (gV τ 1 j2 0) from (f171.1 1 j2 (0) (by decide) (by decide)).trans rfl))
            have q180 : (gV τ169 1 j2 2).toInt = (gV τ 1 j2 2).toInt := congrArg Int32.toInt (show (gV τ169 1 j2 2) = (gV τ 1 j2 2) from (show gV τ169 1 j2 2 = (gV τ 1 j2 2) from (f171.1 1 j2 (2) (by decide) (by decide)).trans rfl))
            have q181 : (gV τ169 1 j2 3).toInt = (gV τ 1 j2 3).toInt := congrArg Int32.toInt (show (gV τ169 1 j2 3) = (gV τ 1 j2 3) from (show gV τ169 1 j2 3 = (gV τ 1 j2 3) from (f171.1 1 j2 (3) (by decide) (by decide)).trans rfl))
            have q182 : (gV τ169 12 0 1).toInt = (gV τ 12 0 1).toInt := congrArg Int32.toInt (show (gV τ169 12 0 1) = (gV τ 12 0 1) from (show gV τ169 12 0 1 = (gV τ 12 0 1) from (f171.1 12 0 (1) (by decide) (by decide)).trans rfl))
            have q183 : (gV τ169 12 0 2).toInt = (gV τ 12 0 2).toInt := congrArg Int32.toInt (show (gV τ169 12 0 2) = (gV τ 12 0 2) from (show gV τ169 12 0 2 = (gV τ 12 0 2) from (f171.1 12 0 (2) (by decide) (by decide)).trans rfl))
            have q184 : (gV τ169 12 0 3).toInt = (gV τ 12 0 3).toInt := congrArg Int32.toInt (show (gV τ169 12 0 3) = (gV τ 12 0 3) from (show gV τ169 12 0 3 = (gV τ 12 0 3) from (f171.1 12 0 (3) (by decide) (by decide)).trans rfl))
            have q185 : (gV τ169 12 0 4).toInt = (gV τ 12 0 4).toInt := congrArg Int32.toInt (show (gV τ169 12 0 4) = (gV τ 12 0 4) from (show gV τ169 12 0 4 = (gV τ 12 0 4) from (f171.1 12 0 (4) (by decide) (by decide)).trans rfl))
            have q186 : (gV τ169 12 0 5).toInt = (gV τ 12 0 5).toInt := congrArg Int32.toInt (show (gV τ169 12 0 5) = (gV τ 12 0 5) from (show gV τ169 12 0 5 = (gV τ 12 0 5) from (f171.1 12 0 (5) (by decide) (by decide)).trans rfl))
            have q187 : (gV τ169 12 0 6).toInt = (gV τ 12 0 6).toInt := congrArg Int32.toInt (show (gV τ169 12 0 6) = (gV τ 12 0 6) from (show gV τ169 12 0 6 = (gV τ 12 0 6) from (f171.1 12 0 (6) (by decide) (by decide)).trans rfl))
            have q188 : (gV τ169 12 0 7).toInt = (gV τ 12 0 7).toInt := congrArg Int32.toInt (show (gV τ169 12 0 7) = (gV τ 12 0 7) from (show gV τ169 12 0 7 = (gV τ 12 0 7) from (f171.1 12 0 (7) (by decide) (by decide)).trans rfl))
            rcases h175 with ⟨h175_0, h175_1, h175_2⟩ | ⟨h175_0, h175_1⟩
            · skip
              have b189 : IV x172 1 1 := ⟨by omega, by omega⟩
              show MW p l e _ s m args below meth c _ 4 G (y3.toInt.toNat) (3 * y3.toInt.toNat) 37 [some (.ref (G.1 12 0)), some (.ref (G.1 1 j2)), some (.int y2), some (.int y3)] [.int x172] τ169
              refine m_if_eq (tgt := 52) C dX6_readInto_37 (by decide) (fun c190 => ?_) (fun c190 => ?_)
              · exfalso
                have q : _ := c190
                simp only [ti_nle, ti_nlt, ti_le, ti_lt, ti_eq, ti_ne, Classical.not_not, kt_0] at q
                have q1 := b189; have q2 := kc_0; omega
              · have f192 : x172.toInt ≠ 0 := by
                  have q : _ := c190
                  simp only [ti_nle, ti_nlt, ti_le, ti_lt, ti_eq, ti_ne, Classical.not_not, kt_0] at q
                  omega
                refine m_aload_n C dX6_readInto_40 rfl rfl ?_
                refine m_aload_n C dX6_readInto_41 rfl rfl ?_
                refine m_callV (n := 1) (ci := 5) (st := []) C (c_X6_readPersonS l G τ169 T N q21 (tV T (tE T N 0)) ((gV τ 1 j2 2).toInt.toNat : Nat) (j2 := j2) hj2 i170 v176 (by omega) (by omega) ⟨(by rw [show (((gV τ 1 j2 2).toInt.toNat : Nat) : Int).toNat = (gV τ 1 j2 2).toInt.toNat by omega]; exact nD1), (nD2.fr f171 (PGr.fr f171 (by decide)) (by decide)).cast (by omega)⟩) (by decide) (by decide) rfl rfl rfl q2_154 q2_151 q2_153 q0_11 q1_2 (by decide +kernel) rfl (by decide) ⟨by show (y3.toInt.toNat) + 1 ≤ 8; omega, by show (3 * y3.toInt.toNat) + 3 ≤ 24; omega⟩ rfl (Nat.le_of_ble_eq_true rfl) dX6_readInto_42 ?_
                rintro _ τ193 ⟨x196, rfl, i194, f195, b197, h199⟩
                obtain ⟨h199, h199t0, h199t1, h199t2⟩ := h199
                have g198 : Fr MS_X6_readIntoS AS_X6_readIntoS σ τ193 := Fr.call (g174) f195 (by decide)
                have v200 : TpC τ193 T N := v176.fr f195 (by decide) (by decide) (by simp) (by decide)
                have v201 : SFd j2 σ τ193 := v177.trans h199t0
                have v202 : PGr σ τ193 := v178.trans h199t1
                have u203 : IV (gV τ193 1 j2 2) 0 7 := i194.1 1 j2 2
                have u204 : IV (gV τ193 12 0 4) 0 400 := i194.1 12 0 4
                have u205 : IV (gV τ193 12 0 5) 0 400 := i194.1 12 0 5
                have q206 : (gV τ193 1 j2 0).toInt = (gV τ 1 j2 0).toInt := congrArg Int32.toInt (show (gV τ193 1 j2 0) = (gV τ 1 j2 0) from (show gV τ193 1 j2 0 = (gV τ 1 j2 0) from (f195.1 1 j2 (0) (by decide) (by decide)).trans (show gV τ169 1 j2 0 = (gV τ 1 j2 0) from (f171.1 1 j2 (0) (by decide) (by decide)).trans rfl)))
                have q207 : (gV τ193 1 j2 3).toInt = (gV τ 1 j2 3).toInt := congrArg Int32.toInt (show (gV τ193 1 j2 3) = (gV τ 1 j2 3) from (show gV τ193 1 j2 3 = (gV τ 1 j2 3) from (f195.1 1 j2 (3) (by decide) (by decide)).trans (show gV τ169 1 j2 3 = (gV τ 1 j2 3) from (f171.1 1 j2 (3) (by decide) (by decide)).trans rfl)))
                have q208 : (gV τ193 12 0 1).toInt = (gV τ 12 0 1).toInt := congrArg Int32.toInt (show (gV τ193 12 0 1) = (gV τ 12 0 1) from (show gV τ193 12 0 1 = (gV τ 12 0 1) from (f195.1 12 0 (1) (by decide) (by decide)).trans (show gV τ169 12 0 1 = (gV τ 12 0 1) from (f171.1 12 0 (1) (by decide) (by decide)).trans rfl)))
                rcases h199 with ⟨h199_0, h199_1, h199_2, h199_3⟩ | ⟨h199_0, h199_1, h199_2, h199_3, h199_4⟩
                · skip
                  have b209 : IV x196 0 0 := ⟨by omega, by omega⟩
                  have q210 := nP.bad (by omega) ⟨by omega, by omega⟩ h199_1
                  show MW p l e _ s m args below meth c _ 4 G ((y3.toInt.toNat) + 1) ((3 * y3.toInt.toNat) + 3) 45 [some (.ref (G.1 12 0)), some (.ref (G.1 1 j2)), some (.int y2), some (.int y3)] [.int x196] τ193
                  refine m_istore_n (L1 := [some (.ref (G.1 12 0)), some (.ref (G.1 1 j2)), some (.int x196), some (.int y3)]) C dX6_readInto_45 rfl (by decide) rfl rfl ?_
                  obtain ⟨x211, ex211⟩ : ∃ y : Int32, y = y3 + 1 := ⟨_, rfl⟩
                  have tx211 : x211.toInt = y3.toInt + 1 := by rw [ex211, ti_addv b162 kc_1 (by decide), kt_1]
                  have b212 : IV x211 1 8 := by rw [ex211]; exact iv_add b162 kc_1 (by decide)
                  refine m_iinc (v := x211) (L1 := [some (.ref (G.1 12 0)), some (.ref (G.1 1 j2)), some (.int x196), some (.int x211)]) C dX6_readInto_46 rfl (by rw [ex211]; rfl) (by decide) rfl rfl ?_
                  refine m_goto (tgt := 21) C dX6_readInto_49 (by decide) ?_
                  refine m_widen (c2 := (x211.toInt.toNat)) (s2 := (3 * x211.toInt.toNat)) (by omega) (by omega) ?_
                  exact ih21 τ193 x196 x211 (tE T N (tE T N (tE T N (tE T N (tE T N (tE T N q21)))))) i194 g198 (iv_wk b209 (by decide)) (iv_wk b212 (by decide)) v202 v201 v200 (Or.inr (by exact ⟨by omega, by omega, by omega, by omega⟩)) (fun h => absurd h (by omega)) (by have q := hm21; omega)
                · skip
                  have b213 : IV x196 1 1 := ⟨by omega, by omega⟩
                  show MW p l e _ s m args below meth c _ 4 G ((y3.toInt.toNat) + 1) ((3 * y3.toInt.toNat) + 3) 45 [some (.ref (G.1 12 0)), some (.ref (G.1 1 j2)), some (.int y2), some (.int y3)] [.int x196] τ193
                  refine m_istore_n (L1 := [some (.ref (G.1 12 0)), some (.ref (G.1 1 j2)), some (.int x196), some (.int y3)]) C dX6_readInto_45 rfl (by decide) rfl rfl ?_
                  obtain ⟨x214, ex214⟩ : ∃ y : Int32, y = y3 + 1 := ⟨_, rfl⟩
                  have tx214 : x214.toInt = y3.toInt + 1 := by rw [ex214, ti_addv b162 kc_1 (by decide), kt_1]
                  have b215 : IV x214 1 8 := by rw [ex214]; exact iv_add b162 kc_1 (by decide)
                  refine m_iinc (v := x214) (L1 := [some (.ref (G.1 12 0)), some (.ref (G.1 1 j2)), some (.int x196), some (.int x214)]) C dX6_readInto_46 rfl (by rw [ex214]; rfl) (by decide) rfl rfl ?_
                  refine m_goto (tgt := 21) C dX6_readInto_49 (by decide) ?_
                  refine m_widen (c2 := (x214.toInt.toNat)) (s2 := (3 * x214.toInt.toNat)) (by omega) (by omega) ?_
                  exact ih21 τ193 x196 x214 (tE T N (tE T N (tE T N (tE T N (tE T N (tE T N q21)))))) i194 g198 (iv_wk b213 (by decide)) (iv_wk b215 (by decide)) v202 v201 v200 (Or.inl (by exact ⟨by omega, by omega, by omega, by omega, by omega, by omega, by omega, by omega, (by rw [show (gV τ193 1 j2 2).toInt.toNat = (gV τ 1 j2 2).toInt.toNat + 1 by omega]; exact nP.go (by omega) ⟨by omega, by omega⟩ (by omega))⟩)) (fun _ => ⟨by rw [show (gV τ193 1 j2 2).toInt.toNat = (gV τ 1 j2 2).toInt.toNat + 1 by omega]; show t6 T N (pp T N (gV τ 1 j2 2).toInt.toNat) = _; rw [nD1]; rfl, (h199t2 (by omega)).cast (by omega)⟩) (by have q := hm21; omega)
            · skip
              have b216 : IV x172 0 0 := ⟨by omega, by omega⟩
              show MW p l e _ s m args below meth c _ 4 G (y3.toInt.toNat) (3 * y3.toInt.toNat) 37 [some (.ref (G.1 12 0)), some (.ref (G.1 1 j2)), some (.int y2), some (.int y3)] [.int x172] τ169
              refine m_if_eq (tgt := 52) C dX6_readInto_37 (by decide) (fun c217 => ?_) (fun c217 => ?_)
              · have f218 : x172.toInt = 0 := by
                  have q : _ := c217
                  simp only [ti_nle, ti_nlt, ti_le, ti_lt, ti_eq, ti_ne, Classical.not_not, kt_0] at q
                  omega
                refine m_widen (c2 := 8) (s2 := 24) (by omega) (by omega) ?_
                refine m_sub (L1 := [some (.ref (G.1 12 0)), some (.ref (G.1 1 j2)), some (.int y2), none]) ⟨rfl, ⟨rfl, ⟨rfl, trivial⟩⟩⟩ ?_
                exact J52 τ169 y2 q21 i170 g174 (iv_wk b161 (by decide)) v178 v177 v176 (Or.inl (by exact ⟨by omega, by omega, by omega, by omega, by rw [show (gV τ169 1 j2 2).toInt.toNat = (gV τ 1 j2 2).toInt.toNat by omega, show (gV τ169 1 j2 3).toInt.toNat = 0 by omega]; exact nP.no (by omega)⟩)) (fun _ => ⟨(nD2.fr f171 (PGr.fr f171 (by decide)) (by decide)).cast (by omega), by omega⟩)
              · exfalso
                have q : _ := c217
                simp only [ti_nle, ti_nlt, ti_le, ti_lt, ti_eq, ti_ne, Classical.not_not, kt_0] at q
                have q1 := b216; have q2 := kc_0; omega
      · have b220 : IV y2 0 0 := ⟨by omega, by omega⟩
        refine m_iload_n C dX6_readInto_21 rfl rfl ?_
        refine m_if_eq (tgt := 52) C dX6_readInto_22 (by decide) (fun c221 => ?_) (fun c221 => ?_)
        · have f222 : y2.toInt = 0 := by
            have q : _ := c221
            simp only [ti_nle, ti_nlt, ti_le, ti_lt, ti_eq, ti_ne, Classical.not_not, kt_0] at q
            omega
          refine m_widen (c2 := 8) (s2 := 24) (by omega) (by omega) ?_
          refine m_sub (L1 := [some (.ref (G.1 12 0)), some (.ref (G.1 1 j2)), some (.int y2), none]) ⟨rfl, ⟨rfl, ⟨rfl, trivial⟩⟩⟩ ?_
          exact J52 τ y2 q21 iτ fτ (iv_wk b220 (by decide)) v_PG v_SD v_T (Or.inr (by exact ⟨by omega, by omega, by omega, by omega⟩)) (fun h => absurd h (by omega))
        · exfalso
          have q : _ := c221
          simp only [ti_nle, ti_nlt, ti_le, ti_lt, ti_eq, ti_ne, Classical.not_not, kt_0] at q
          have q1 := b220; have q2 := kc_0; omega
  have u224 : IV (gV σ 1 j2 2) 0 7 := hI.1 1 j2 2
  have u225 : IV (gV σ 1 j2 3) 0 4 := hI.1 1 j2 3
  have u226 : IV (gV σ 12 0 1) 0 400 := hI.1 12 0 1
  have u227 : IV (gV σ 12 0 4) 0 400 := hI.1 12 0 4
  have u228 : IV (gV σ 12 0 5) 0 400 := hI.1 12 0 5
  refine m_aload_n C dX6_readInto_0 rfl rfl ?_
  refine m_callV (n := 0) (ci := 7) (st := []) C (c_X8_clearS l G σ (j := j2) hj2  hI ) (by decide) hj2 rfl rfl rfl q2_59 q2_56 q2_57 q2_58 q1_3 (by decide +kernel) rfl (by decide) (by decide) rfl (Nat.le_of_ble_eq_true rfl) dX6_readInto_1 ?_
  rintro _ τ229 ⟨rfl, i230, f231, h235⟩
  obtain ⟨h235, h235t0⟩ := h235
  have g234 : Fr MS_X6_readIntoS AS_X6_readIntoS σ τ229 := Fr.call (Fr.rf) f231 (by decide)
  have v236 : TpC τ229 T N := hT.fr f231 (by decide) (by decide) (by simp) (by decide)
  have v237 : SFd j2 σ τ229 := SFd.rf.trans h235t0
  have v238 : PGr σ τ229 := PGr.rf.trans (PGr.fr f231 (by decide))
  have u239 : IV (gV τ229 1 j2 2) 0 7 := i230.1 1 j2 2
  have u240 : IV (gV τ229 1 j2 3) 0 4 := i230.1 1 j2 3
  have q241 : (gV τ229 12 0 1).toInt = (gV σ 12 0 1).toInt := congrArg Int32.toInt (show (gV τ229 12 0 1) = (gV σ 12 0 1) from (show gV τ229 12 0 1 = (gV σ 12 0 1) from (f231.1 12 0 (1) (by decide) (by decide)).trans rfl))
  have q242 : (gV τ229 12 0 2).toInt = (gV σ 12 0 2).toInt := congrArg Int32.toInt (show (gV τ229 12 0 2) = (gV σ 12 0 2) from (show gV τ229 12 0 2 = (gV σ 12 0 2) from (f231.1 12 0 (2) (by decide) (by decide)).trans rfl))
  have q243 : (gV τ229 12 0 3).toInt = (gV σ 12 0 3).toInt := congrArg Int32.toInt (show (gV τ229 12 0 3) = (gV σ 12 0 3) from (show gV τ229 12 0 3 = (gV σ 12 0 3) from (f231.1 12 0 (3) (by decide) (by decide)).trans rfl))
  have q244 : (gV τ229 12 0 4).toInt = (gV σ 12 0 4).toInt := congrArg Int32.toInt (show (gV τ229 12 0 4) = (gV σ 12 0 4) from (show gV τ229 12 0 4 = (gV σ 12 0 4) from (f231.1 12 0 (4) (by decide) (by decide)).trans rfl))
  have q245 : (gV τ229 12 0 5).toInt = (gV σ 12 0 5).toInt := congrArg Int32.toInt (show (gV τ229 12 0 5) = (gV σ 12 0 5) from (show gV τ229 12 0 5 = (gV σ 12 0 5) from (f231.1 12 0 (5) (by decide) (by decide)).trans rfl))
  have q246 : (gV τ229 12 0 6).toInt = (gV σ 12 0 6).toInt := congrArg Int32.toInt (show (gV τ229 12 0 6) = (gV σ 12 0 6) from (show gV τ229 12 0 6 = (gV σ 12 0 6) from (f231.1 12 0 (6) (by decide) (by decide)).trans rfl))
  have q247 : (gV τ229 12 0 7).toInt = (gV σ 12 0 7).toInt := congrArg Int32.toInt (show (gV τ229 12 0 7) = (gV σ 12 0 7) from (show gV τ229 12 0 7 = (gV σ 12 0 7) from (f231.1 12 0 (7) (by decide) (by decide)).trans rfl))
  show MW p l e _ s m args below meth c _ 4 G 0 0 4 [some (.ref (G.1 12 0)), some (.ref (G.1 1 j2)), none, none] [] τ229
  refine m_aload_n C dX6_readInto_4 rfl rfl ?_
  refine m_iconst (v := 0) C dX6_readInto_5 (by decide) ?_
  refine p_12_5 C q1_45 dX6_readInto_6 ?_
  refine m_tops (fun τ248 eτ248 => ?_)
  have i249 : Inv τ248 := eτ248 ▸ Inv.put i230 (by decide) (iv_wk kc_0 (by decide))
  have f250 : Fr MS_X6_readIntoS AS_X6_readIntoS σ τ248 := eτ248 ▸ Fr.put (g234) (Or.inl (by decide))
  have v251 : TpC τ248 T N := v236.put eτ248 (Or.inr (by decide)) (by decide)
  have v252 : SFd j2 σ τ248 := v237.put eτ248 (by decide)
  have v253 : PGr σ τ248 := v238.trans (PGr.eq (by rw [eτ248]; rfl))
  refine m_aload_n C dX6_readInto_9 rfl rfl ?_
  have q254 : (gV τ248 12 0 1).toInt = (gV σ 12 0 1).toInt := congrArg Int32.toInt (show (gV τ248 12 0 1) = (gV σ 12 0 1) from (show gV τ248 12 0 1 = (gV σ 12 0 1) from gV_put eτ248 (show gV τ229 12 0 1 = (gV σ 12 0 1) from (f231.1 12 0 (1) (by decide) (by decide)).trans rfl)))
  have q255 : (gV τ248 12 0 2).toInt = (gV σ 12 0 2).toInt := congrArg Int32.toInt (show (gV τ248 12 0 2) = (gV σ 12 0 2) from (show gV τ248 12 0 2 = (gV σ 12 0 2) from gV_put eτ248 (show gV τ229 12 0 2 = (gV σ 12 0 2) from (f231.1 12 0 (2) (by decide) (by decide)).trans rfl)))
  have q256 : (gV τ248 12 0 3).toInt = (gV σ 12 0 3).toInt := congrArg Int32.toInt (show (gV τ248 12 0 3) = (gV σ 12 0 3) from (show gV τ248 12 0 3 = (gV σ 12 0 3) from gV_put eτ248 (show gV τ229 12 0 3 = (gV σ 12 0 3) from (f231.1 12 0 (3) (by decide) (by decide)).trans rfl)))
  have q257 : (gV τ248 12 0 4).toInt = (gV σ 12 0 4).toInt := congrArg Int32.toInt (show (gV τ248 12 0 4) = (gV σ 12 0 4) from (show gV τ248 12 0 4 = (gV σ 12 0 4) from gV_put eτ248 (show gV τ229 12 0 4 = (gV σ 12 0 4) from (f231.1 12 0 (4) (by decide) (by decide)).trans rfl)))
  have q258 : (gV τ248 12 0 6).toInt = (gV σ 12 0 6).toInt := congrArg Int32.toInt (show (gV τ248 12 0 6) = (gV σ 12 0 6) from (show gV τ248 12 0 6 = (gV σ 12 0 6) from gV_put eτ248 (show gV τ229 12 0 6 = (gV σ 12 0 6) from (f231.1 12 0 (6) (by decide) (by decide)).trans rfl)))
  have q259 : (gV τ248 12 0 7).toInt = (gV σ 12 0 7).toInt := congrArg Int32.toInt (show (gV τ248 12 0 7) = (gV σ 12 0 7) from (show gV τ248 12 0 7 = (gV σ 12 0 7) from gV_put eτ248 (show gV τ229 12 0 7 = (gV σ 12 0 7) from (f231.1 12 0 (7) (by decide) (by decide)).trans rfl)))
  have q260 : (gV τ248 1 j2 0).toInt = (gV τ229 1 j2 0).toInt := congrArg Int32.toInt (show (gV τ248 1 j2 0) = (gV τ229 1 j2 0) from (show gV τ248 1 j2 0 = (gV τ229 1 j2 0) from gV_put eτ248 rfl))
  have q261 : (gV τ248 1 j2 2).toInt = (gV τ229 1 j2 2).toInt := congrArg Int32.toInt (show (gV τ248 1 j2 2) = (gV τ229 1 j2 2) from (show gV τ248 1 j2 2 = (gV τ229 1 j2 2) from gV_put eτ248 rfl))
  have q262 : (gV τ248 1 j2 3).toInt = (gV τ229 1 j2 3).toInt := congrArg Int32.toInt (show (gV τ248 1 j2 3) = (gV τ229 1 j2 3) from (show gV τ248 1 j2 3 = (gV τ229 1 j2 3) from gV_put eτ248 rfl))
  have q263 : (gV τ248 12 0 5).toInt = 0 := (congrArg Int32.toInt (show (gV τ248 12 0 5) = 0 from (show gV τ248 12 0 5 = 0 from gV_put eτ248 (gV_self _ _ _ _ _)))).trans kt_0
  refine m_callV (n := 0) (ci := 5) (st := []) C (c_X6_nextE l G τ248 T N 0  i249 v251 (by omega)) (by decide) (by decide) rfl rfl rfl q2_63 q2_60 q2_62 q0_3 q1_2 (by decide +kernel) rfl (by decide) (by decide) rfl (Nat.le_of_ble_eq_true rfl) dX6_readInto_10 ?_
  rintro _ τ264 ⟨rfl, i265, f266, h270⟩
  have g269 : Fr MS_X6_readIntoS AS_X6_readIntoS σ τ264 := Fr.call (f250) f266 (by decide)
  have v271 : TpC τ264 T N := v251.fr f266 (by decide) (by decide) (by simp) (by decide)
  have v272 : SFd j2 σ τ264 := v252.fr f266 (by decide) (by decide)
  have v273 : PGr σ τ264 := v253.trans (PGr.fr f266 (by decide))
  have u274 : IV (gV τ264 12 0 4) 0 400 := i265.1 12 0 4
  have u275 : IV (gV τ264 12 0 5) 0 400 := i265.1 12 0 5
  have q276 : (gV τ264 12 0 1).toInt = (gV σ 12 0 1).toInt := congrArg Int32.toInt (show (gV τ264 12 0 1) = (gV σ 12 0 1) from (show gV τ264 12 0 1 = (gV σ 12 0 1) from (f266.1 12 0 (1) (by decide) (by decide)).trans (show gV τ248 12 0 1 = (gV σ 12 0 1) from gV_put eτ248 (show gV τ229 12 0 1 = (gV σ 12 0 1) from (f231.1 12 0 (1) (by decide) (by decide)).trans rfl))))
  have q277 : (gV τ264 12 0 2).toInt = (gV σ 12 0 2).toInt := congrArg Int32.toInt (show (gV τ264 12 0 2) = (gV σ 12 0 2) from (show gV τ264 12 0 2 = (gV σ 12 0 2) from (f266.1 12 0 (2) (by decide) (by decide)).trans (show gV τ248 12 0 2 = (gV σ 12 0 2) from gV_put eτ248 (show gV τ229 12 0 2 = (gV σ 12 0 2) from (f231.1 12 0 (2) (by decide) (by decide)).trans rfl))))
  have q278 : (gV τ264 12 0 3).toInt = (gV σ 12 0 3).toInt := congrArg Int32.toInt (show (gV τ264 12 0 3) = (gV σ 12 0 3) from (show gV τ264 12 0 3 = (gV σ 12 0 3) from (f266.1 12 0 (3) (by decide) (by decide)).trans (show gV τ248 12 0 3 = (gV σ 12 0 3) from gV_put eτ248 (show gV τ229 12 0 3 = (gV σ 12 0 3) from (f231.1 12 0 (3) (by decide) (by decide)).trans rfl))))
  have q279 : (gV τ264 1 j2 0).toInt = (gV τ229 1 j2 0).toInt := congrArg Int32.toInt (show (gV τ264 1 j2 0) = (gV τ229 1 j2 0) from (show gV τ264 1 j2 0 = (gV τ229 1 j2 0) from (f266.1 1 j2 (0) (by decide) (by decide)).trans (show gV τ248 1 j2 0 = (gV τ229 1 j2 0) from gV_put eτ248 rfl)))
  have q280 : (gV τ264 1 j2 2).toInt = (gV τ229 1 j2 2).toInt := congrArg Int32.toInt (show (gV τ264 1 j2 2) = (gV τ229 1 j2 2) from (show gV τ264 1 j2 2 = (gV τ229 1 j2 2) from (f266.1 1 j2 (2) (by decide) (by decide)).trans (show gV τ248 1 j2 2 = (gV τ229 1 j2 2) from gV_put eτ248 rfl)))
  have q281 : (gV τ264 1 j2 3).toInt = (gV τ229 1 j2 3).toInt := congrArg Int32.toInt (show (gV τ264 1 j2 3) = (gV τ229 1 j2 3) from (show gV τ264 1 j2 3 = (gV τ229 1 j2 3) from (f266.1 1 j2 (3) (by decide) (by decide)).trans (show gV τ248 1 j2 3 = (gV τ229 1 j2 3) from gV_put eτ248 rfl)))
  show MW p l e _ s m args below meth c _ 4 G 0 0 13 [some (.ref (G.1 12 0)), some (.ref (G.1 1 j2)), none, none] [] τ264
  refine m_aload_n C dX6_readInto_13 rfl rfl ?_
  refine m_aload_n C dX6_readInto_14 rfl rfl ?_
  refine m_callV (n := 1) (ci := 5) (st := []) C (c_X6_readLawS l G τ264 T N 0 (j2 := j2) hj2 i265 v271 (by omega)) (by decide) (by decide) rfl rfl rfl q2_84 q2_81 q2_83 q0_6 q1_2 (by decide +kernel) rfl (by decide) (by decide) rfl (Nat.le_of_ble_eq_true rfl) dX6_readInto_15 ?_
  rintro _ τ282 ⟨x285, rfl, i283, f284, b286, h288⟩
  obtain ⟨h288, h288t0⟩ := h288
  have g287 : Fr MS_X6_readIntoS AS_X6_readIntoS σ τ282 := Fr.call (g269) f284 (by decide)
  have v289 : TpC τ282 T N := v271.fr f284 (by decide) (by decide) (by simp) (by decide)
  have v290 : SFd j2 σ τ282 := v272.trans h288t0
  have v291 : PGr σ τ282 := v273.trans (PGr.fr f284 (by decide))
  have u292 : IV (gV τ282 12 0 4) 0 400 := i283.1 12 0 4
  have u293 : IV (gV τ282 12 0 5) 0 400 := i283.1 12 0 5
  have q294 : (gV τ282 12 0 1).toInt = (gV σ 12 0 1).toInt := congrArg Int32.toInt (show (gV τ282 12 0 1) = (gV σ 12 0 1) from (show gV τ282 12 0 1 = (gV σ 12 0 1) from (f284.1 12 0 (1) (by decide) (by decide)).trans (show gV τ264 12 0 1 = (gV σ 12 0 1) from (f266.1 12 0 (1) (by decide) (by decide)).trans (show gV τ248 12 0 1 = (gV σ 12 0 1) from gV_put eτ248 (show gV τ229 12 0 1 = (gV σ 12 0 1) from (f231.1 12 0 (1) (by decide) (by decide)).trans rfl)))))
  have q295 : (gV τ282 1 j2 2).toInt = (gV τ229 1 j2 2).toInt := congrArg Int32.toInt (show (gV τ282 1 j2 2) = (gV τ229 1 j2 2) from (show gV τ282 1 j2 2 = (gV τ229 1 j2 2) from (f284.1 1 j2 (2) (by decide) (by decide)).trans (show gV τ264 1 j2 2 = (gV τ229 1 j2 2) from (f266.1 1 j2 (2) (by decide) (by decide)).trans (show gV τ248 1 j2 2 = (gV τ229 1 j2 2) from gV_put eτ248 rfl))))
  have q296 : (gV τ282 1 j2 3).toInt = (gV τ229 1 j2 3).toInt := congrArg Int32.toInt (show (gV τ282 1 j2 3) = (gV τ229 1 j2 3) from (show gV τ282 1 j2 3 = (gV τ229 1 j2 3) from (f284.1 1 j2 (3) (by decide) (by decide)).trans (show gV τ264 1 j2 3 = (gV τ229 1 j2 3) from (f266.1 1 j2 (3) (by decide) (by decide)).trans (show gV τ248 1 j2 3 = (gV τ229 1 j2 3) from gV_put eτ248 rfl))))
  rcases h288 with ⟨h288_0, h288_1, h288_2, h288_3⟩ | ⟨h288_0, h288_1, h288_2, h288_3, h288_4⟩
  · skip
    have b297 : IV x285 0 0 := ⟨by omega, by omega⟩
    have q298 := out_law (T := T) (N := N) (by omega)
    show MW p l e _ s m args below meth c _ 4 G 0 0 18 [some (.ref (G.1 12 0)), some (.ref (G.1 1 j2)), none, none] [.int x285] τ282
    refine m_istore_n (L1 := [some (.ref (G.1 12 0)), some (.ref (G.1 1 j2)), some (.int x285), none]) C dX6_readInto_18 rfl (by decide) rfl rfl ?_
    refine m_iconst (v := 0) C dX6_readInto_19 (by decide) ?_
    refine m_istore_n (L1 := [some (.ref (G.1 12 0)), some (.ref (G.1 1 j2)), some (.int x285), some (.int 0)]) C dX6_readInto_20 rfl (by decide) rfl rfl ?_
    refine m_widen (c2 := ((0 : Int32).toInt.toNat)) (s2 := (3 * (0 : Int32).toInt.toNat)) (by omega) (by omega) ?_
    exact J21 ((8 - (0 : Int32).toInt).toNat + 1) τ282 x285 0 (tE T N (tE T N (tE T N (tE T N 0)))) i283 g287 (iv_wk b297 (by decide)) (iv_wk kc_0 (by decide)) v291 v290 v289 (Or.inr (by have q3_ := kt_0; exact ⟨by omega, by omega, by omega, by omega⟩)) (fun h => absurd h (by have q3_ := kt_0; omega)) (Nat.lt_succ_self _)
  · skip
    have b299 : IV x285 1 1 := ⟨by omega, by omega⟩
    show MW p l e _ s m args below meth c _ 4 G 0 0 18 [some (.ref (G.1 12 0)), some (.ref (G.1 1 j2)), none, none] [.int x285] τ282
    refine m_istore_n (L1 := [some (.ref (G.1 12 0)), some (.ref (G.1 1 j2)), some (.int x285), none]) C dX6_readInto_18 rfl (by decide) rfl rfl ?_
    refine m_iconst (v := 0) C dX6_readInto_19 (by decide) ?_
    refine m_istore_n (L1 := [some (.ref (G.1 12 0)), some (.ref (G.1 1 j2)), some (.int x285), some (.int 0)]) C dX6_readInto_20 rfl (by decide) rfl rfl ?_
    refine m_widen (c2 := ((0 : Int32).toInt.toNat)) (s2 := (3 * (0 : Int32).toInt.toNat)) (by omega) (by omega) ?_
    exact J21 ((8 - (0 : Int32).toInt).toNat + 1) τ282 x285 0 (tE T N (tE T N (tE T N (tE T N 0)))) i283 g287 (iv_wk b299 (by decide)) (iv_wk kc_0 (by decide)) v291 v290 v289 (Or.inl (by have q3_ := kt_0; exact ⟨by omega, by omega, by omega, by omega, by omega, by omega, by omega, by omega, (by rw [show (gV τ282 1 j2 2).toInt.toNat = 0 by omega]; exact PI_.start (by omega))⟩)) (fun _ => ⟨by rw [show (gV τ282 1 j2 2).toInt.toNat = 0 by omega]; rfl, PrC.zero (by omega)⟩) (Nat.lt_succ_self _)

abbrev MS_X11_towerS : List (Nat × Nat) := [(0, 6), (1, 0), (1, 1), (1, 2), (1, 3), (1, 9), (1, 10), (1, 11), (12, 1), (12, 2), (12, 3), (12, 4), (12, 5), (12, 6), (12, 7)]
abbrev AS_X11_towerS : List Nat := [2, 3, 4, 5, 6, 99]
set_option maxHeartbeats 4000000 in
set_option maxRecDepth 100000 in
theorem c_X11_towerS (l : Launch) (G : Gt) (σ : Sg) (T : Nat → Int) (N : Nat) (S : Stt) (I : Nat → Stt) (hI : Inv σ) (hT : TpC σ T N) (hCA : CA σ S I) : Mc l G yX11_tower cX11_tower 1 (some .int) 8 181 8 24 [.ref (G.1 0 0)] σ (PI fun r τ => Inv τ ∧ Fr MS_X11_towerS AS_X11_towerS σ τ ∧ IV r (-1000500) 7 ∧ (((r.toInt = -1000100 - outP T N ∧ outF T N ≠ 0 ∧ (gV τ 12 0 2).toInt = outF T N ∧ (gV τ 12 0 1).toInt = 0) ∨ (r.toInt = outN T N ∧ outF T N = 0 ∧ (gV τ 12 0 2).toInt = (gV σ 12 0 2).toInt ∧ (gV τ 12 0 1).toInt = 0)) ∧ (outF T N ≠ 0 → CA τ S I) ∧ (outF T N = 0 → CA τ (SS T N) I))) := by
  refine Mc.of (L0 := [some (.ref (G.1 0 0))]) (by decide) (Nat.le_of_ble_eq_true rfl) rfl ?_
  intro p e s m args below meth c C hr hlk
  have C : Cx p s m args c cX11_tower 1 "LeanTower" := C
  have k0 : (0 : Int32).toInt = 0 := by decide
  have k1 : (1 : Int32).toInt = 1 := by decide
  have u1 : IV (gV σ 1 0 2) 0 7 := hI.1 1 0 2
  have u2 : IV (gV σ 1 1 2) 0 7 := hI.1 1 1 2
  have u3 : IV (gV σ 12 0 1) 0 400 := hI.1 12 0 1
  refine m_aload_n C dX11_tower_0 rfl rfl ?_
  refine g_0_1 C q1_187 dX11_tower_1 ?_
  refine m_aload_n C dX11_tower_4 rfl rfl ?_
  refine g_0_3 C q1_189 dX11_tower_5 ?_
  refine m_callV (n := 1) (ci := 5) (st := []) C (c_X6_readIntoS l G σ T N (j2 := 1) (by decide) hI hT) (by decide) (by decide) rfl rfl rfl q2_55 q2_52 q2_53 q2_54 q1_2 (by decide +kernel) rfl (by decide) (by decide) rfl (Nat.le_of_ble_eq_true rfl) dX11_tower_8 ?_
  rintro _ τ4 ⟨x7, rfl, i5, f6, b8, h10⟩
  obtain ⟨h10, h10t0, h10t1, h10t2⟩ := h10
  have g9 : Fr MS_X11_towerS AS_X11_towerS σ τ4 := Fr.call (Fr.rf) f6 (by decide)
  have v11 : CA τ4 S I := hCA.same h10t0 h10t1 (f6.1 0 0 5 (by decide) (by decide)) (f6.1 0 0 6 (by decide) (by decide))
  have u12 : IV (gV τ4 1 0 2) 0 7 := i5.1 1 0 2
  have u13 : IV (gV τ4 1 1 2) 0 7 := i5.1 1 1 2
  have u14 : IV (gV τ4 12 0 1) 0 400 := i5.1 12 0 1
  rcases h10 with ⟨h10_0, h10_1, h10_2, h10_3, h10_4⟩ | ⟨h10_0, h10_1, h10_2, h10_3, h10_4⟩
  · skip
    have b15 : IV x7 0 0 := ⟨by omega, by omega⟩
    show MW p l e _ s m args below meth c _ 1 G 8 24 11 [some (.ref (G.1 0 0))] [.int x7] τ4
    refine m_if_ne (tgt := 25) C dX11_tower_11 (by decide) (fun c16 => ?_) (fun c16 => ?_)
    · exfalso
      have q : _ := c16
      simp only [ti_nle, ti_nlt, ti_le, ti_lt, ti_eq, ti_ne, Classical.not_not, kt_0] at q
      have q1 := b15; have q2 := kc_0; omega
    · have f18 : x7.toInt = 0 := by
        have q : _ := c16
        simp only [ti_nle, ti_nlt, ti_le, ti_lt, ti_eq, ti_ne, Classical.not_not, kt_0] at q
        omega
      refine m_ldc (v := (-1000100)) C dX11_tower_14 q3_5 ?_
      refine m_aload_n C dX11_tower_16 rfl rfl ?_
      refine g_0_1 C q1_187 dX11_tower_17 ?_
      refine g_12_3 C q1_42 dX11_tower_20 ?_
      refine m_eqs (w := (gV τ4 12 0 3)) rfl ?_
      have b19 : IV (gV τ4 12 0 3) 0 400 := ⟨by have q1 := (iv_any (gV τ4 12 0 3)); omega, by have q1 := (iv_any (gV τ4 12 0 3)); omega⟩
      refine m_isub C dX11_tower_23 ?_
      refine m_topi (fun x20 ex20 => ?_)
      have tx20 : x20.toInt = -1000100 - (gV τ4 12 0 3).toInt := by rw [ex20, ti_subv kc_m1000100 b19 (by decide), kt_m1000100]
      have b21 : IV x20 (-1000500) (-1000100) := by rw [ex20]; exact iv_sub kc_m1000100 b19 (by decide)
      exact m_iret C hr hlk (by decide) (by decide) dX11_tower_24 ⟨_, rfl, i5, g9, (iv_wk b21 (by decide)), ⟨(Or.inl ⟨by omega, by omega, by omega, by omega⟩), (fun _ => v11), (fun h => absurd h (by omega))⟩⟩
  · skip
    have b22 : IV x7 1 1 := ⟨by omega, by omega⟩
    show MW p l e _ s m args below meth c _ 1 G 8 24 11 [some (.ref (G.1 0 0))] [.int x7] τ4
    refine m_if_ne (tgt := 25) C dX11_tower_11 (by decide) (fun c23 => ?_) (fun c23 => ?_)
    · have f24 : x7.toInt ≠ 0 := by
        have q : _ := c23
        simp only [ti_nle, ti_nlt, ti_le, ti_lt, ti_eq, ti_ne, Classical.not_not, kt_0] at q
        omega
      refine m_aload_n C dX11_tower_25 rfl rfl ?_
      refine g_0_2 C q1_188 dX11_tower_26 ?_
      refine m_aload_n C dX11_tower_29 rfl rfl ?_
      refine g_0_3 C q1_189 dX11_tower_30 ?_
      refine m_callV (n := 1) (ci := 7) (st := []) C (c_X8_takeFromS l G τ4 (j := 0) (by decide) (j2 := 1) (by decide) i5 (by omega)) (by decide) (by decide) rfl rfl rfl q3_9 q3_6 q3_7 q3_8 q1_3 (by decide +kernel) rfl (by decide) (by decide) rfl (Nat.le_of_ble_eq_true rfl) dX11_tower_33 ?_
      rintro _ τ25 ⟨rfl, i26, f27, h31⟩
      have g30 : Fr MS_X11_towerS AS_X11_towerS σ τ25 := Fr.call (g9) f27 (by decide)
      have q32 := h31.2.2
      have u33 : IV (gV τ25 1 0 2) 0 7 := i26.1 1 0 2
      have u34 : IV (gV τ25 1 1 2) 0 7 := i26.1 1 1 2
      have q35 : (gV τ25 12 0 1).toInt = (gV τ4 12 0 1).toInt := congrArg Int32.toInt (show (gV τ25 12 0 1) = (gV τ4 12 0 1) from (show gV τ25 12 0 1 = (gV τ4 12 0 1) from (f27.1 12 0 (1) (by decide) (by decide)).trans rfl))
      have q36 : (gV τ25 12 0 2).toInt = (gV τ4 12 0 2).toInt := congrArg Int32.toInt (show (gV τ25 12 0 2) = (gV τ4 12 0 2) from (show gV τ25 12 0 2 = (gV τ4 12 0 2) from (f27.1 12 0 (2) (by decide) (by decide)).trans rfl))
      have q37 : (gV τ25 12 0 3).toInt = (gV τ4 12 0 3).toInt := congrArg Int32.toInt (show (gV τ25 12 0 3) = (gV τ4 12 0 3) from (show gV τ25 12 0 3 = (gV τ4 12 0 3) from (f27.1 12 0 (3) (by decide) (by decide)).trans rfl))
      show MW p l e _ s m args below meth c _ 1 G 8 24 36 [some (.ref (G.1 0 0))] [] τ25
      refine m_aload_n C dX11_tower_36 rfl rfl ?_
      refine m_iconst (v := 0) C dX11_tower_37 (by decide) ?_
      refine p_0_6 C q1_192 dX11_tower_38 ?_
      refine m_tops (fun τ38 eτ38 => ?_)
      have i39 : Inv τ38 := eτ38 ▸ Inv.put i26 (by decide) (iv_wk kc_0 (by decide))
      have f40 : Fr MS_X11_towerS AS_X11_towerS σ τ38 := eτ38 ▸ Fr.put (g30) (Or.inl (by decide))
      have v41 := CA.fresh v11.2.2 (PGr.fr f27 (by decide)) h31 (h10t2 (by omega)) eτ38 kt_0
      refine m_aload_n C dX11_tower_41 rfl rfl ?_
      refine g_0_2 C q1_188 dX11_tower_42 ?_
      refine g_1_2 C (by decide) q1_82 dX11_tower_45 ?_
      refine m_eqs (w := (gV τ25 1 0 2)) (show gV τ38 1 0 2 = (gV τ25 1 0 2) from gV_put eτ38 rfl) ?_
      have q42 : (gV τ38 12 0 1).toInt = (gV τ4 12 0 1).toInt := congrArg Int32.toInt (show (gV τ38 12 0 1) = (gV τ4 12 0 1) from (show gV τ38 12 0 1 = (gV τ4 12 0 1) from gV_put eτ38 (show gV τ25 12 0 1 = (gV τ4 12 0 1) from (f27.1 12 0 (1) (by decide) (by decide)).trans rfl)))
      have q43 : (gV τ38 12 0 2).toInt = (gV τ4 12 0 2).toInt := congrArg Int32.toInt (show (gV τ38 12 0 2) = (gV τ4 12 0 2) from (show gV τ38 12 0 2 = (gV τ4 12 0 2) from gV_put eτ38 (show gV τ25 12 0 2 = (gV τ4 12 0 2) from (f27.1 12 0 (2) (by decide) (by decide)).trans rfl)))
      have q44 : (gV τ38 12 0 3).toInt = (gV τ4 12 0 3).toInt := congrArg Int32.toInt (show (gV τ38 12 0 3) = (gV τ4 12 0 3) from (show gV τ38 12 0 3 = (gV τ4 12 0 3) from gV_put eτ38 (show gV τ25 12 0 3 = (gV τ4 12 0 3) from (f27.1 12 0 (3) (by decide) (by decide)).trans rfl)))
      have q45 : (gV τ38 1 0 2).toInt = (gV τ25 1 0 2).toInt := congrArg Int32.toInt (show (gV τ38 1 0 2) = (gV τ25 1 0 2) from (show gV τ38 1 0 2 = (gV τ25 1 0 2) from gV_put eτ38 rfl))
      have q46 : (gV τ38 1 1 2).toInt = (gV τ25 1 1 2).toInt := congrArg Int32.toInt (show (gV τ38 1 1 2) = (gV τ25 1 1 2) from (show gV τ38 1 1 2 = (gV τ25 1 1 2) from gV_put eτ38 rfl))
      exact m_iret C hr hlk (by decide) (by decide) dX11_tower_48 ⟨_, rfl, i39, f40, (iv_wk u33 (by decide)), ⟨(Or.inr (⟨by omega, by omega, by omega, by omega⟩)), (fun h => absurd h (by omega)), (fun _ => v41)⟩⟩
    · exfalso
      have q : _ := c23
      simp only [ti_nle, ti_nlt, ti_le, ti_lt, ti_eq, ti_ne, Classical.not_not, kt_0] at q
      have q1 := b22; have q2 := kc_0; omega
