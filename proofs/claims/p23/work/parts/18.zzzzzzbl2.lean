abbrev MS_X0_ringB_0 : List (Nat × Nat) := [(16, 4)]
abbrev AS_X0_ringB_0 : List Nat := [19]
set_option maxHeartbeats 4000000 in
set_option maxRecDepth 100000 in
theorem c_X0_ringB_0 (l : Launch) (G : Gt) (σ : Sg) (bn : Nat) (ν : Nat → Int) (pr : List Nat) (acc : Int × List Nat) (a1 : Int32) (a2 : Int32) (a3 : Int32) (a4 : Int32) (hI : Inv σ) (ha1 : IV a1 5 5) (ha3 : IV a3 (-100) 100) (ha4 : IV a4 0 100) (hrn : RNG σ bn ν) (hν : ∀ b, 0 ≤ ν b ∧ ν b ≤ 20) (hac : ACC σ bn acc) (hor : ORD σ pr) (hrb : RBT a2 pr) (hst : bst ν 0 0 0 pr = (a3.toInt, a4.toInt) ∧ pr.length = 5 ∧ pr.length ≤ bn) : Mc l G yX0_ringFrom cX0_ringFrom 8 none 1 60 0 0 [.ref (G.1 16 0), .int a1, .int a2, .int a3, .int a4] σ (PV fun τ => Inv τ ∧ Fr MS_X0_ringB_0 AS_X0_ringB_0 σ τ ∧ (ACC τ bn ((bperm bn (bn - pr.length) pr).foldl (bupd ν) acc) ∧ ∀ i, i < pr.length → gV τ 18 0 i = gV σ 18 0 i)) := by
  refine Mc.of (L0 := [some (.ref (G.1 16 0)), some (.int a1), some (.int a2), some (.int a3), some (.int a4), none, none, none]) (by decide) (Nat.le_of_ble_eq_true rfl) rfl ?_
  intro p e s m args below meth c C hr hlk
  have C : Cx p s m args c cX0_ringFrom 8 "LeanTower$Bells" := C
  have k0 : (0 : Int32).toInt = 0 := by decide
  have k1 : (1 : Int32).toInt = 1 := by decide
  have u1 : IV (gV σ 16 0 2) 0 5 := hI.1 16 0 2
  have q2 : (gV σ 16 0 2).toInt = (bn : Int) := hrn.1
  have q3 := hrn.2.1
  refine m_iload C dX0_ringFrom_0 rfl ?_
  refine m_aload_n C dX0_ringFrom_2 rfl rfl ?_
  refine g_16_4 C q1_154 dX0_ringFrom_3 ?_
  refine m_eqs (w := (gV σ 16 0 4)) rfl ?_
  refine m_icmp_lt (tgt := 10) C dX0_ringFrom_6 (by decide) (fun c4 => ?_) (fun c4 => ?_)
  · have f5 : a4.toInt < (gV σ 16 0 4).toInt := by
      have q : _ := c4
      simp only [ti_nle, ti_nlt, ti_le, ti_lt, ti_eq, ti_ne, Classical.not_not] at q
      omega
    have b6 : IV (gV σ 16 0 4) 1 2147483647 := ⟨by have q1 := ha4; have q2 := (iv_any (gV σ 16 0 4)); omega, by have q1 := ha4; have q2 := (iv_any (gV σ 16 0 4)); omega⟩
    refine m_iload_n C dX0_ringFrom_10 rfl rfl ?_
    refine m_aload_n C dX0_ringFrom_11 rfl rfl ?_
    refine g_16_2 C q1_151 dX0_ringFrom_12 ?_
    refine m_eqs (w := (gV σ 16 0 2)) rfl ?_
    refine m_icmp_lt (tgt := 42) C dX0_ringFrom_15 (by decide) (fun c7 => ?_) (fun c7 => ?_)
    · exfalso
      have q : _ := c7
      simp only [ti_nle, ti_nlt, ti_le, ti_lt, ti_eq, ti_ne, Classical.not_not] at q
      have q1 := ha1; have q2 := u1; omega
    · have f9 : (gV σ 16 0 2).toInt ≤ a1.toInt := by
        have q : _ := c7
        simp only [ti_nle, ti_nlt, ti_le, ti_lt, ti_eq, ti_ne, Classical.not_not] at q
        omega
      refine m_aload_n C dX0_ringFrom_18 rfl rfl ?_
      refine m_iload C dX0_ringFrom_19 rfl ?_
      refine p_16_4 C q1_154 dX0_ringFrom_21 ?_
      refine m_tops (fun τ10 eτ10 => ?_)
      have i11 : Inv τ10 := eτ10 ▸ Inv.putF hI (by decide) rfl
      have f12 : Fr MS_X0_ringB_0 AS_X0_ringB_0 σ τ10 := eτ10 ▸ Fr.put (Fr.rf) (Or.inl (by decide))
      have v13 : RNG τ10 bn ν := RNG.put_ hrn eτ10 (Or.inr (by decide))
      refine m_aload_n C dX0_ringFrom_24 rfl rfl ?_
      refine g_16_1 C q1_150 dX0_ringFrom_25 ?_
      refine m_iconst (v := 0) C dX0_ringFrom_28 (by decide) ?_
      refine m_aload_n C dX0_ringFrom_29 rfl rfl ?_
      refine g_16_3 C q1_152 dX0_ringFrom_30 ?_
      refine m_iconst (v := 0) C dX0_ringFrom_33 (by decide) ?_
      refine m_aload_n C dX0_ringFrom_34 rfl rfl ?_
      refine g_16_2 C q1_151 dX0_ringFrom_35 ?_
      refine m_eqs (w := (gV σ 16 0 2)) (show gV τ10 16 0 2 = (gV σ 16 0 2) from gV_put eτ10 rfl) ?_
      have q14 := u1
      have q15 := kt_0
      refine m_copy (t0 := 18) (n0 := 5) (t1 := 19) (n1 := 5) (st := []) C (by decide) (by decide) rfl (by decide) (by decide) (fun _ => rfl) ⟨by omega, by omega, by omega, by omega, by omega⟩ q3_234 q2_30 q2_29 q1_8 ⟨by decide, by decide +kernel⟩ dX0_ringFrom_38 ?_
      refine m_tops (fun τ16 eτ16 => ?_)
      have i17 : Inv τ16 := eτ16 ▸ Inv.putRow i11 (by decide) (fun _ => rfl)
      have f18 : Fr MS_X0_ringB_0 AS_X0_ringB_0 σ τ16 := eτ16 ▸ Fr.putRow (f12) (by decide)
      exact m_vret C hr hlk (by decide) (by decide) dX0_ringFrom_41 ⟨rfl, i17, f18, ⟨by rw [bleaf (by omega) (by rw [bcost_of hst.1]; have q := hac.1; omega), bcost_of hst.1]; exact ACC.leaf hor eτ10 eτ16 (by decide) (by decide) (by omega) (by omega) rfl, fun i _ => by rw [eτ16, gV_sR (Or.inl (by decide)), gV_putn eτ10 (Or.inl (by decide))]⟩⟩
  · have f19 : (gV σ 16 0 4).toInt ≤ a4.toInt := by
      have q : _ := c4
      simp only [ti_nle, ti_nlt, ti_le, ti_lt, ti_eq, ti_ne, Classical.not_not] at q
      omega
    have b20 : IV (gV σ 16 0 4) (-2147483648) 100 := ⟨by have q1 := (iv_any (gV σ 16 0 4)); have q2 := ha4; omega, by have q1 := (iv_any (gV σ 16 0 4)); have q2 := ha4; omega⟩
    exact m_vret C hr hlk (by decide) (by decide) dX0_ringFrom_9 ⟨rfl, hI, Fr.rf, ⟨by rw [bfold_cut ν bn _ pr acc (by rw [bcost_of hst.1]; have q := hac.1; omega)]; exact hac, fun _ _ => rfl⟩⟩

abbrev MS_X0_ringB_1 : List (Nat × Nat) := [(16, 4)]
abbrev AS_X0_ringB_1 : List Nat := [18, 19]
set_option maxHeartbeats 4000000 in
set_option maxRecDepth 100000 in
theorem c_X0_ringB_1 (l : Launch) (G : Gt) (σ : Sg) (bn : Nat) (ν : Nat → Int) (pr : List Nat) (acc : Int × List Nat) (a1 : Int32) (a2 : Int32) (a3 : Int32) (a4 : Int32) (hI : Inv σ) (ha1 : IV a1 4 4) (ha3 : IV a3 (-80) 80) (ha4 : IV a4 0 80) (hrn : RNG σ bn ν) (hν : ∀ b, 0 ≤ ν b ∧ ν b ≤ 20) (hac : ACC σ bn acc) (hor : ORD σ pr) (hrb : RBT a2 pr) (hst : bst ν 0 0 0 pr = (a3.toInt, a4.toInt) ∧ pr.length = 4 ∧ pr.length ≤ bn) : Mc l G yX0_ringFrom cX0_ringFrom 8 none 2 87 0 0 [.ref (G.1 16 0), .int a1, .int a2, .int a3, .int a4] σ (PV fun τ => Inv τ ∧ Fr MS_X0_ringB_1 AS_X0_ringB_1 σ τ ∧ (ACC τ bn ((bperm bn (bn - pr.length) pr).foldl (bupd ν) acc) ∧ ∀ i, i < pr.length → gV τ 18 0 i = gV σ 18 0 i)) := by
  refine Mc.of (L0 := [some (.ref (G.1 16 0)), some (.int a1), some (.int a2), some (.int a3), some (.int a4), none, none, none]) (by decide) (Nat.le_of_ble_eq_true rfl) rfl ?_
  intro p e s m args below meth c C hr hlk
  have C : Cx p s m args c cX0_ringFrom 8 "LeanTower$Bells" := C
  have k0 : (0 : Int32).toInt = 0 := by decide
  have k1 : (1 : Int32).toInt = 1 := by decide
  have J45 : ∀ (n : Nat) (τ : Sg) (y5 : Int32), Inv τ → Fr MS_X0_ringB_1 AS_X0_ringB_1 σ τ → IV a1 4 4 → IV a2 (-2147483648) 2147483647 → IV a3 (-80) 80 → IV a4 0 80 → IV y5 0 5 → (RNG τ bn ν) → ((4 < bn ∧ y5.toInt ≤ (bn : Int))) → (ACC τ bn ((bpart bn (bn - pr.length - 1) pr y5.toInt.toNat).foldl (bupd ν) acc)) → (∀ i, i < pr.length → gV τ 18 0 i = gV σ 18 0 i) → (5 - y5.toInt).toNat < n → MW p l e { frames := 2, cells := 0, slots := 0, locals := 87 } s m args below meth c (MQ below (QP G (PV fun τ => Inv τ ∧ Fr MS_X0_ringB_1 AS_X0_ringB_1 σ τ ∧ (ACC τ bn ((bperm bn (bn - pr.length) pr).foldl (bupd ν) acc) ∧ ∀ i, i < pr.length → gV τ 18 0 i = gV σ 18 0 i))) args s 0 0 (aG G)) 8 G 0 0 45 [some (.ref (G.1 16 0)), some (.int a1), some (.int a2), some (.int a3), some (.int a4), some (.int y5), none, none] [] τ := by
    intro n
    induction n with
    | zero => intro τ y5 iτ fτ b_a1 b_a2 b_a3 b_a4 b_y5 v_RN n1 nA nO hm; exact absurd hm (Nat.not_lt_zero _)
    | succ n ih45 =>
      intro τ y5 iτ fτ b_a1 b_a2 b_a3 b_a4 b_y5 v_RN n1 nA nO hm45
      have u2 : IV (gV τ 16 0 2) 0 5 := iτ.1 16 0 2
      have q3 : (gV τ 16 0 2).toInt = (bn : Int) := v_RN.1
      have q4 := hrn.2.1
      refine m_iload C dX0_ringFrom_45 rfl ?_
      refine m_aload_n C dX0_ringFrom_47 rfl rfl ?_
      refine g_16_2 C q1_151 dX0_ringFrom_48 ?_
      refine m_eqs (w := (gV τ 16 0 2)) rfl ?_
      refine m_icmp_ge (tgt := 135) C dX0_ringFrom_51 (by decide) (fun c5 => ?_) (fun c5 => ?_)
      · have f6 : (gV τ 16 0 2).toInt ≤ y5.toInt := by
          have q : _ := c5
          simp only [ti_nle, ti_nlt, ti_le, ti_lt, ti_eq, ti_ne, Classical.not_not] at q
          omega
        have nA_ : (bn : Int) ≤ y5.toInt → ACC τ bn ((bpart bn (bn - pr.length - 1) pr bn).foldl (bupd ν) acc) := fun g => by rw [show bn = y5.toInt.toNat by omega]; rw [show bn = y5.toInt.toNat by omega] at nA; exact nA
        exact m_vret C hr hlk (by decide) (by decide) dX0_ringFrom_135 ⟨rfl, iτ, fτ, ⟨bwhole (by omega) (nA_ (by omega)), nO⟩⟩
      · have f7 : y5.toInt < (gV τ 16 0 2).toInt := by
          have q : _ := c5
          simp only [ti_nle, ti_nlt, ti_le, ti_lt, ti_eq, ti_ne, Classical.not_not] at q
          omega
        have b8 : IV y5 0 4 := ⟨by have q1 := b_y5; have q2 := u2; omega, by have q1 := b_y5; have q2 := u2; omega⟩
        have b9 : IV (gV τ 16 0 2) 1 5 := ⟨by have q1 := b_y5; have q2 := u2; omega, by have q1 := b_y5; have q2 := u2; omega⟩
        refine m_iload_n C dX0_ringFrom_54 rfl rfl ?_
        refine m_iload C dX0_ringFrom_55 rfl ?_
        refine m_ishr C dX0_ringFrom_57 ?_
        refine m_topi (fun x10 ex10 => ?_)
        refine m_iconst (v := 1) C dX0_ringFrom_58 (by decide) ?_
        refine m_iand C dX0_ringFrom_59 ?_
        refine m_topi (fun x11 ex11 => ?_)
        have b12 : IV x11 0 1 := by rw [ex11]; exact iv_and_r kc_1 (by decide)
        have q14 := hrb.2 y5.toInt.toNat (by omega)
        have q13 : x11.toInt = (bt a2.toInt.toNat y5.toInt.toNat : Int) := bit_i ex11 ex10 ⟨hrb.1.1, by have q := hrb.1.2; omega⟩ (iv_wk b8 (by decide))
        have q15 : bt a2.toInt.toNat y5.toInt.toNat < 2 := Nat.mod_lt _ (by decide)
        refine m_if_ne (tgt := 129) C dX0_ringFrom_60 (by decide) (fun c16 => ?_) (fun c16 => ?_)
        · have f17 : x11.toInt ≠ 0 := by
            have q : _ := c16
            simp only [ti_nle, ti_nlt, ti_le, ti_lt, ti_eq, ti_ne, Classical.not_not, kt_0] at q
            omega
          have b18 : IV x11 1 1 := ⟨by have q1 := b12; have q2 := kc_0; omega, by have q1 := b12; have q2 := kc_0; omega⟩
          obtain ⟨x19, ex19⟩ : ∃ y : Int32, y = y5 + 1 := ⟨_, rfl⟩
          have tx19 : x19.toInt = y5.toInt + 1 := by rw [ex19, ti_addv b8 kc_1 (by decide), kt_1]
          have b20 : IV x19 1 5 := by rw [ex19]; exact iv_add b8 kc_1 (by decide)
          refine m_iinc (v := x19) (L1 := [some (.ref (G.1 16 0)), some (.int a1), some (.int a2), some (.int a3), some (.int a4), some (.int x19), none, none]) C dX0_ringFrom_129 rfl (by rw [ex19]; rfl) (by decide) rfl rfl ?_
          refine m_goto (tgt := 45) C dX0_ringFrom_132 (by decide) ?_
          exact ih45 τ x19 iτ fτ b_a1 b_a2 b_a3 b_a4 (iv_wk b20 (by decide)) v_RN (by omega) (by rw [show x19.toInt.toNat = y5.toInt.toNat + 1 by omega, bpart_in (q14.mp (by omega))]; exact nA) nO (by have q := hm45; omega)
        · have f21 : x11.toInt = 0 := by
            have q : _ := c16
            simp only [ti_nle, ti_nlt, ti_le, ti_lt, ti_eq, ti_ne, Classical.not_not, kt_0] at q
            omega
          have b22 : IV x11 0 0 := ⟨by have q1 := b12; have q2 := kc_0; omega, by have q1 := b12; have q2 := kc_0; omega⟩
          refine m_aload_n C dX0_ringFrom_63 rfl rfl ?_
          refine g_16_1 C q1_150 dX0_ringFrom_64 ?_
          refine m_iload_n C dX0_ringFrom_67 rfl rfl ?_
          refine m_iload C dX0_ringFrom_68 rfl ?_
          refine as_18 C b_a1 (by decide) rfl dX0_ringFrom_70 ?_
          refine m_tops (fun τ23 eτ23 => ?_)
          have i24 : Inv τ23 := eτ23 ▸ Inv.putF iτ (by decide) rfl
          have f25 : Fr MS_X0_ringB_1 AS_X0_ringB_1 σ τ23 := eτ23 ▸ Fr.put (fτ) (Or.inr (by decide))
          have v26 : RNG τ23 bn ν := RNG.put_ v_RN eτ23 (Or.inl (by decide))
          refine m_iload_n C dX0_ringFrom_71 rfl rfl ?_
          refine m_iconst (v := 2) C dX0_ringFrom_72 (by decide) ?_
          refine m_irem C dX0_ringFrom_73 (iv_nz kc_2 (by decide)) ?_
          refine m_topi (fun x27 ex27 => ?_)
          have b28 : IV x27 0 1 := by rw [ex27]; exact iv_rem b_a1 kc_2 (by decide)
          have tx27 : x27.toInt = a1.toInt % 2 := by rw [ex27]; exact ti_rem b_a1 kc_2 (by decide)
          refine m_if_ne (tgt := 89) C dX0_ringFrom_74 (by decide) (fun c29 => ?_) (fun c29 => ?_)
          · have f30 : x27.toInt ≠ 0 := by
              have q : _ := c29
              simp only [ti_nle, ti_nlt, ti_le, ti_lt, ti_eq, ti_ne, Classical.not_not, kt_0] at q
              omega
            have b31 : IV x27 1 1 := ⟨by have q1 := b28; have q2 := kc_0; omega, by have q1 := b28; have q2 := kc_0; omega⟩
            refine m_iload_n C dX0_ringFrom_89 rfl rfl ?_
            refine m_aload_n C dX0_ringFrom_90 rfl rfl ?_
            refine g_16_0 C q1_149 dX0_ringFrom_91 ?_
            refine m_iload C dX0_ringFrom_94 rfl ?_
            refine al_17 C b8 (by decide) rfl dX0_ringFrom_96 ?_
            refine m_topi (fun x32 ex32 => ?_)
            have q33 : x32.toInt = ν (y5.toInt.toNat) := by rw [← v26.2.2 (y5.toInt.toNat) (by omega), show gV τ23 17 0 (y5.toInt.toNat) = x32 from ex32.symm]
            have q35 := hν (y5.toInt.toNat)
            have b34 : IV x32 0 20 := ⟨by omega, by omega⟩
            refine m_isub C dX0_ringFrom_97 ?_
            refine m_topi (fun x36 ex36 => ?_)
            have tx36 : x36.toInt = a3.toInt - x32.toInt := by rw [ex36, ti_subv b_a3 b34 (by decide)]
            have b37 : IV x36 (-100) 80 := by rw [ex36]; exact iv_sub b_a3 b34 (by decide)
            refine m_istore (L1 := [some (.ref (G.1 16 0)), some (.int a1), some (.int a2), some (.int a3), some (.int a4), some (.int y5), some (.int x36), none]) C dX0_ringFrom_98 (by decide) rfl rfl ?_
            refine m_iload C dX0_ringFrom_100 rfl ?_
            refine m_iload C dX0_ringFrom_102 rfl ?_
            refine m_abs (st := [.int a4]) C q3_235 q3_66 q1_19 q3_67 ⟨by decide, Nat.le_of_ble_eq_true rfl⟩ (by decide) dX0_ringFrom_104 (fun x38 ex38 => ?_)
            have tx38 : x38.toInt = max x36.toInt (-x36.toInt) := ti_absv ex38 b37 (by decide)
            have b39 : IV x38 0 100 := ⟨by have q := b37; omega, by have q := b37; omega⟩
            refine m_max (st := []) C q3_236 q3_92 q1_19 q3_93 ⟨by decide, Nat.le_of_ble_eq_true rfl⟩ (by decide) dX0_ringFrom_107 (fun x40 ex40 => ?_)
            have tx40 : x40.toInt = max (a4.toInt) (x38.toInt) := by rw [ti_max ex40]
            have b41 : IV x40 0 100 := ⟨by have q1 := b_a4; have q2 := b39; omega, by have q1 := b_a4; have q2 := b39; omega⟩
            refine m_istore (L1 := [some (.ref (G.1 16 0)), some (.int a1), some (.int a2), some (.int a3), some (.int a4), some (.int y5), some (.int x36), some (.int x40)]) C dX0_ringFrom_110 (by decide) rfl rfl ?_
            refine m_aload_n C dX0_ringFrom_112 rfl rfl ?_
            refine m_iload_n C dX0_ringFrom_113 rfl rfl ?_
            refine m_iconst (v := 1) C dX0_ringFrom_114 (by decide) ?_
            refine m_iadd C dX0_ringFrom_115 ?_
            refine m_topi (fun x42 ex42 => ?_)
            have tx42 : x42.toInt = a1.toInt + 1 := by rw [ex42, ti_addv b_a1 kc_1 (by decide), kt_1]
            have b43 : IV x42 5 5 := by rw [ex42]; exact iv_add b_a1 kc_1 (by decide)
            refine m_iload_n C dX0_ringFrom_116 rfl rfl ?_
            refine m_iconst (v := 1) C dX0_ringFrom_117 (by decide) ?_
            refine m_iload C dX0_ringFrom_118 rfl ?_
            refine m_ishl C dX0_ringFrom_120 ?_
            refine m_topi (fun x44 ex44 => ?_)
            have b45 : IV x44 1 16 := by rw [ex44]; exact iv_shl1 b8 (by decide)
            refine m_ior C dX0_ringFrom_121 ?_
            refine m_topi (fun x46 ex46 => ?_)
            refine m_iload C dX0_ringFrom_122 rfl ?_
            refine m_iload C dX0_ringFrom_124 rfl ?_
            have q47 : (gV τ23 16 0 2).toInt = (gV τ 16 0 2).toInt := congrArg Int32.toInt (show (gV τ23 16 0 2) = (gV τ 16 0 2) from (show gV τ23 16 0 2 = (gV τ 16 0 2) from gV_put eτ23 rfl))
            have q48 : (gV τ23 16 0 4).toInt = (gV τ 16 0 4).toInt := congrArg Int32.toInt (show (gV τ23 16 0 4) = (gV τ 16 0 4) from (show gV τ23 16 0 4 = (gV τ 16 0 4) from gV_put eτ23 rfl))
            refine m_callV (n := 4) (ci := 0) (st := []) C (c_X0_ringB_0 l G τ23 bn ν (pr ++ [y5.toInt.toNat]) ((bpart bn (bn - pr.length - 1) pr y5.toInt.toNat).foldl (bupd ν) acc) (x42) (x46) (x36) (x40) i24 b43 (iv_wk b37 (by decide)) b41 v26 hν (ACC.same nA (gV_putn eτ23 (Or.inl (by decide))) (fun i => gV_putn eτ23 (Or.inl (by decide)))) (ORD.more (hor.same nO) eτ23 (by omega) (by omega)) (RBT.more hrb ex46 ex44 (iv_wk b8 (by decide))) ⟨by rw [bst_one hst.1 hst.2.1, if_neg (by omega)]; exact pr2 (by omega) (by omega), by rw [List.length_append, List.length_singleton, hst.2.1], by rw [List.length_append, List.length_singleton]; omega⟩) (by decide) (by decide) rfl rfl rfl q3_233 q3_230 q3_232 q0_24 q1_5 (by decide +kernel) rfl (by decide) (by decide) rfl (Nat.le_of_ble_eq_true rfl) dX0_ringFrom_126 ?_
            rintro _ τ49 ⟨rfl, i50, f51, h55⟩
            have g54 : Fr MS_X0_ringB_1 AS_X0_ringB_1 σ τ49 := Fr.call (f25) f51 (by decide)
            have v56 : RNG τ49 bn ν := v26.fr f51 (by decide) (by decide) (by simp) (by decide)
            have q57 : (gV τ49 16 0 2).toInt = (gV τ 16 0 2).toInt := congrArg Int32.toInt (show (gV τ49 16 0 2) = (gV τ 16 0 2) from (show gV τ49 16 0 2 = (gV τ 16 0 2) from (f51.1 16 0 (2) (by decide) (by decide)).trans (show gV τ23 16 0 2 = (gV τ 16 0 2) from gV_put eτ23 rfl)))
            show MW p l e _ s m args below meth c _ 8 G 0 0 129 [some (.ref (G.1 16 0)), some (.int a1), some (.int a2), some (.int a3), some (.int a4), some (.int y5), some (.int x36), some (.int x40)] [] τ49
            obtain ⟨x58, ex58⟩ : ∃ y : Int32, y = y5 + 1 := ⟨_, rfl⟩
            have tx58 : x58.toInt = y5.toInt + 1 := by rw [ex58, ti_addv b8 kc_1 (by decide), kt_1]
            have b59 : IV x58 1 5 := by rw [ex58]; exact iv_add b8 kc_1 (by decide)
            refine m_iinc (v := x58) (L1 := [some (.ref (G.1 16 0)), some (.int a1), some (.int a2), some (.int a3), some (.int a4), some (.int x58), some (.int x36), some (.int x40)]) C dX0_ringFrom_129 rfl (by rw [ex58]; rfl) (by decide) rfl rfl ?_
            refine m_goto (tgt := 45) C dX0_ringFrom_132 (by decide) ?_
            refine m_sub (L1 := [some (.ref (G.1 16 0)), some (.int a1), some (.int a2), some (.int a3), some (.int a4), some (.int x58), none, none]) ⟨rfl, ⟨rfl, ⟨rfl, ⟨rfl, ⟨rfl, ⟨rfl, trivial⟩⟩⟩⟩⟩⟩ ?_
            exact ih45 τ49 x58 i50 g54 b_a1 b_a2 b_a3 b_a4 (iv_wk b59 (by decide)) v56 (by omega) (by rw [show x58.toInt.toNat = y5.toInt.toNat + 1 by omega, bpart_out (fun g => by have q := q14.mpr g; omega), List.foldl_append]; exact bstep h55.1) (fun i hi => (h55.2 i (by rw [List.length_append]; omega)).trans ((gV_putn eτ23 (Or.inr (Or.inr (by omega)))).trans (nO i hi))) (by have q := hm45; omega)
          · have f60 : x27.toInt = 0 := by
              have q : _ := c29
              simp only [ti_nle, ti_nlt, ti_le, ti_lt, ti_eq, ti_ne, Classical.not_not, kt_0] at q
              omega
            have b61 : IV x27 0 0 := ⟨by have q1 := b28; have q2 := kc_0; omega, by have q1 := b28; have q2 := kc_0; omega⟩
            refine m_iload_n C dX0_ringFrom_77 rfl rfl ?_
            refine m_aload_n C dX0_ringFrom_78 rfl rfl ?_
            refine g_16_0 C q1_149 dX0_ringFrom_79 ?_
            refine m_iload C dX0_ringFrom_82 rfl ?_
            refine al_17 C b8 (by decide) rfl dX0_ringFrom_84 ?_
            refine m_topi (fun x62 ex62 => ?_)
            have q63 : x62.toInt = ν (y5.toInt.toNat) := by rw [← v26.2.2 (y5.toInt.toNat) (by omega), show gV τ23 17 0 (y5.toInt.toNat) = x62 from ex62.symm]
            have q65 := hν (y5.toInt.toNat)
            have b64 : IV x62 0 20 := ⟨by omega, by omega⟩
            refine m_iadd C dX0_ringFrom_85 ?_
            refine m_topi (fun x66 ex66 => ?_)
            have tx66 : x66.toInt = a3.toInt + x62.toInt := by rw [ex66, ti_addv b_a3 b64 (by decide)]
            have b67 : IV x66 (-80) 100 := by rw [ex66]; exact iv_add b_a3 b64 (by decide)
            refine m_goto (tgt := 98) C dX0_ringFrom_86 (by decide) ?_
            refine m_istore (L1 := [some (.ref (G.1 16 0)), some (.int a1), some (.int a2), some (.int a3), some (.int a4), some (.int y5), some (.int x66), none]) C dX0_ringFrom_98 (by decide) rfl rfl ?_
            refine m_iload C dX0_ringFrom_100 rfl ?_
            refine m_iload C dX0_ringFrom_102 rfl ?_
            refine m_abs (st := [.int a4]) C q3_235 q3_66 q1_19 q3_67 ⟨by decide, Nat.le_of_ble_eq_true rfl⟩ (by decide) dX0_ringFrom_104 (fun x68 ex68 => ?_)
            have tx68 : x68.toInt = max x66.toInt (-x66.toInt) := ti_absv ex68 b67 (by decide)
            have b69 : IV x68 0 100 := ⟨by have q := b67; omega, by have q := b67; omega⟩
            refine m_max (st := []) C q3_236 q3_92 q1_19 q3_93 ⟨by decide, Nat.le_of_ble_eq_true rfl⟩ (by decide) dX0_ringFrom_107 (fun x70 ex70 => ?_)
            have tx70 : x70.toInt = max (a4.toInt) (x68.toInt) := by rw [ti_max ex70]
            have b71 : IV x70 0 100 := ⟨by have q1 := b_a4; have q2 := b69; omega, by have q1 := b_a4; have q2 := b69; omega⟩
            refine m_istore (L1 := [some (.ref (G.1 16 0)), some (.int a1), some (.int a2), some (.int a3), some (.int a4), some (.int y5), some (.int x66), some (.int x70)]) C dX0_ringFrom_110 (by decide) rfl rfl ?_
            refine m_aload_n C dX0_ringFrom_112 rfl rfl ?_
            refine m_iload_n C dX0_ringFrom_113 rfl rfl ?_
            refine m_iconst (v := 1) C dX0_ringFrom_114 (by decide) ?_
            refine m_iadd C dX0_ringFrom_115 ?_
            refine m_topi (fun x72 ex72 => ?_)
            have tx72 : x72.toInt = a1.toInt + 1 := by rw [ex72, ti_addv b_a1 kc_1 (by decide), kt_1]
            have b73 : IV x72 5 5 := by rw [ex72]; exact iv_add b_a1 kc_1 (by decide)
            refine m_iload_n C dX0_ringFrom_116 rfl rfl ?_
            refine m_iconst (v := 1) C dX0_ringFrom_117 (by decide) ?_
            refine m_iload C dX0_ringFrom_118 rfl ?_
            refine m_ishl C dX0_ringFrom_120 ?_
            refine m_topi (fun x74 ex74 => ?_)
            have b75 : IV x74 1 16 := by rw [ex74]; exact iv_shl1 b8 (by decide)
            refine m_ior C dX0_ringFrom_121 ?_
            refine m_topi (fun x76 ex76 => ?_)
            refine m_iload C dX0_ringFrom_122 rfl ?_
            refine m_iload C dX0_ringFrom_124 rfl ?_
            have q77 : (gV τ23 16 0 2).toInt = (gV τ 16 0 2).toInt := congrArg Int32.toInt (show (gV τ23 16 0 2) = (gV τ 16 0 2) from (show gV τ23 16 0 2 = (gV τ 16 0 2) from gV_put eτ23 rfl))
            have q78 : (gV τ23 16 0 4).toInt = (gV τ 16 0 4).toInt := congrArg Int32.toInt (show (gV τ23 16 0 4) = (gV τ 16 0 4) from (show gV τ23 16 0 4 = (gV τ 16 0 4) from gV_put eτ23 rfl))
            refine m_callV (n := 4) (ci := 0) (st := []) C (c_X0_ringB_0 l G τ23 bn ν (pr ++ [y5.toInt.toNat]) ((bpart bn (bn - pr.length - 1) pr y5.toInt.toNat).foldl (bupd ν) acc) (x72) (x76) (x66) (x70) i24 b73 (iv_wk b67 (by decide)) b71 v26 hν (ACC.same nA (gV_putn eτ23 (Or.inl (by decide))) (fun i => gV_putn eτ23 (Or.inl (by decide)))) (ORD.more (hor.same nO) eτ23 (by omega) (by omega)) (RBT.more hrb ex76 ex74 (iv_wk b8 (by decide))) ⟨by rw [bst_one hst.1 hst.2.1, if_pos (by omega)]; exact pr2 (by omega) (by omega), by rw [List.length_append, List.length_singleton, hst.2.1], by rw [List.length_append, List.length_singleton]; omega⟩) (by decide) (by decide) rfl rfl rfl q3_233 q3_230 q3_232 q0_24 q1_5 (by decide +kernel) rfl (by decide) (by decide) rfl (Nat.le_of_ble_eq_true rfl) dX0_ringFrom_126 ?_
            rintro _ τ79 ⟨rfl, i80, f81, h85⟩
            have g84 : Fr MS_X0_ringB_1 AS_X0_ringB_1 σ τ79 := Fr.call (f25) f81 (by decide)
            have v86 : RNG τ79 bn ν := v26.fr f81 (by decide) (by decide) (by simp) (by decide)
            have q87 : (gV τ79 16 0 2).toInt = (gV τ 16 0 2).toInt := congrArg Int32.toInt (show (gV τ79 16 0 2) = (gV τ 16 0 2) from (show gV τ79 16 0 2 = (gV τ 16 0 2) from (f81.1 16 0 (2) (by decide) (by decide)).trans (show gV τ23 16 0 2 = (gV τ 16 0 2) from gV_put eτ23 rfl)))
            show MW p l e _ s m args below meth c _ 8 G 0 0 129 [some (.ref (G.1 16 0)), some (.int a1), some (.int a2), some (.int a3), some (.int a4), some (.int y5), some (.int x66), some (.int x70)] [] τ79
            obtain ⟨x88, ex88⟩ : ∃ y : Int32, y = y5 + 1 := ⟨_, rfl⟩
            have tx88 : x88.toInt = y5.toInt + 1 := by rw [ex88, ti_addv b8 kc_1 (by decide), kt_1]
            have b89 : IV x88 1 5 := by rw [ex88]; exact iv_add b8 kc_1 (by decide)
            refine m_iinc (v := x88) (L1 := [some (.ref (G.1 16 0)), some (.int a1), some (.int a2), some (.int a3), some (.int a4), some (.int x88), some (.int x66), some (.int x70)]) C dX0_ringFrom_129 rfl (by rw [ex88]; rfl) (by decide) rfl rfl ?_
            refine m_goto (tgt := 45) C dX0_ringFrom_132 (by decide) ?_
            refine m_sub (L1 := [some (.ref (G.1 16 0)), some (.int a1), some (.int a2), some (.int a3), some (.int a4), some (.int x88), none, none]) ⟨rfl, ⟨rfl, ⟨rfl, ⟨rfl, ⟨rfl, ⟨rfl, trivial⟩⟩⟩⟩⟩⟩ ?_
            exact ih45 τ79 x88 i80 g84 b_a1 b_a2 b_a3 b_a4 (iv_wk b89 (by decide)) v86 (by omega) (by rw [show x88.toInt.toNat = y5.toInt.toNat + 1 by omega, bpart_out (fun g => by have q := q14.mpr g; omega), List.foldl_append]; exact bstep h85.1) (fun i hi => (h85.2 i (by rw [List.length_append]; omega)).trans ((gV_putn eτ23 (Or.inr (Or.inr (by omega)))).trans (nO i hi))) (by have q := hm45; omega)
  have u90 : IV (gV σ 16 0 2) 0 5 := hI.1 16 0 2
  have q91 : (gV σ 16 0 2).toInt = (bn : Int) := hrn.1
  have q92 := hrn.2.1
  refine m_iload C dX0_ringFrom_0 rfl ?_
  refine m_aload_n C dX0_ringFrom_2 rfl rfl ?_
  refine g_16_4 C q1_154 dX0_ringFrom_3 ?_
  refine m_eqs (w := (gV σ 16 0 4)) rfl ?_
  refine m_icmp_lt (tgt := 10) C dX0_ringFrom_6 (by decide) (fun c93 => ?_) (fun c93 => ?_)
  · have f94 : a4.toInt < (gV σ 16 0 4).toInt := by
      have q : _ := c93
      simp only [ti_nle, ti_nlt, ti_le, ti_lt, ti_eq, ti_ne, Classical.not_not] at q
      omega
    have b95 : IV (gV σ 16 0 4) 1 2147483647 := ⟨by have q1 := ha4; have q2 := (iv_any (gV σ 16 0 4)); omega, by have q1 := ha4; have q2 := (iv_any (gV σ 16 0 4)); omega⟩
    refine m_iload_n C dX0_ringFrom_10 rfl rfl ?_
    refine m_aload_n C dX0_ringFrom_11 rfl rfl ?_
    refine g_16_2 C q1_151 dX0_ringFrom_12 ?_
    refine m_eqs (w := (gV σ 16 0 2)) rfl ?_
    refine m_icmp_lt (tgt := 42) C dX0_ringFrom_15 (by decide) (fun c96 => ?_) (fun c96 => ?_)
    · have f97 : a1.toInt < (gV σ 16 0 2).toInt := by
        have q : _ := c96
        simp only [ti_nle, ti_nlt, ti_le, ti_lt, ti_eq, ti_ne, Classical.not_not] at q
        omega
      have b98 : IV (gV σ 16 0 2) 5 5 := ⟨by have q1 := ha1; have q2 := u90; omega, by have q1 := ha1; have q2 := u90; omega⟩
      refine m_iconst (v := 0) C dX0_ringFrom_42 (by decide) ?_
      refine m_istore (L1 := [some (.ref (G.1 16 0)), some (.int a1), some (.int a2), some (.int a3), some (.int a4), some (.int 0), none, none]) C dX0_ringFrom_43 (by decide) rfl rfl ?_
      exact J45 ((5 - (0 : Int32).toInt).toNat + 1) σ 0 hI Fr.rf ha1 (iv_any a2) ha3 ha4 (iv_wk kc_0 (by decide)) hrn (by omega) (by rw [kn_0, bpart_zero]; exact hac) (fun _ _ => rfl) (Nat.lt_succ_self _)
    · have f99 : (gV σ 16 0 2).toInt ≤ a1.toInt := by
        have q : _ := c96
        simp only [ti_nle, ti_nlt, ti_le, ti_lt, ti_eq, ti_ne, Classical.not_not] at q
        omega
      have b100 : IV (gV σ 16 0 2) 0 4 := ⟨by have q1 := u90; have q2 := ha1; omega, by have q1 := u90; have q2 := ha1; omega⟩
      refine m_aload_n C dX0_ringFrom_18 rfl rfl ?_
      refine m_iload C dX0_ringFrom_19 rfl ?_
      refine p_16_4 C q1_154 dX0_ringFrom_21 ?_
      refine m_tops (fun τ101 eτ101 => ?_)
      have i102 : Inv τ101 := eτ101 ▸ Inv.putF hI (by decide) rfl
      have f103 : Fr MS_X0_ringB_1 AS_X0_ringB_1 σ τ101 := eτ101 ▸ Fr.put (Fr.rf) (Or.inl (by decide))
      have v104 : RNG τ101 bn ν := RNG.put_ hrn eτ101 (Or.inr (by decide))
      refine m_aload_n C dX0_ringFrom_24 rfl rfl ?_
      refine g_16_1 C q1_150 dX0_ringFrom_25 ?_
      refine m_iconst (v := 0) C dX0_ringFrom_28 (by decide) ?_
      refine m_aload_n C dX0_ringFrom_29 rfl rfl ?_
      refine g_16_3 C q1_152 dX0_ringFrom_30 ?_
      refine m_iconst (v := 0) C dX0_ringFrom_33 (by decide) ?_
      refine m_aload_n C dX0_ringFrom_34 rfl rfl ?_
      refine g_16_2 C q1_151 dX0_ringFrom_35 ?_
      refine m_eqs (w := (gV σ 16 0 2)) (show gV τ101 16 0 2 = (gV σ 16 0 2) from gV_put eτ101 rfl) ?_
      have q105 := b100
      have q106 := kt_0
      refine m_copy (t0 := 18) (n0 := 5) (t1 := 19) (n1 := 5) (st := []) C (by decide) (by decide) rfl (by decide) (by decide) (fun _ => rfl) ⟨by omega, by omega, by omega, by omega, by omega⟩ q3_234 q2_30 q2_29 q1_8 ⟨by decide, by decide +kernel⟩ dX0_ringFrom_38 ?_
      refine m_tops (fun τ107 eτ107 => ?_)
      have i108 : Inv τ107 := eτ107 ▸ Inv.putRow i102 (by decide) (fun _ => rfl)
      have f109 : Fr MS_X0_ringB_1 AS_X0_ringB_1 σ τ107 := eτ107 ▸ Fr.putRow (f103) (by decide)
      exact m_vret C hr hlk (by decide) (by decide) dX0_ringFrom_41 ⟨rfl, i108, f109, ⟨by rw [bleaf (by omega) (by rw [bcost_of hst.1]; have q := hac.1; omega), bcost_of hst.1]; exact ACC.leaf hor eτ101 eτ107 (by decide) (by decide) (by omega) (by omega) rfl, fun i _ => by rw [eτ107, gV_sR (Or.inl (by decide)), gV_putn eτ101 (Or.inl (by decide))]⟩⟩
  · have f110 : (gV σ 16 0 4).toInt ≤ a4.toInt := by
      have q : _ := c93
      simp only [ti_nle, ti_nlt, ti_le, ti_lt, ti_eq, ti_ne, Classical.not_not] at q
      omega
    have b111 : IV (gV σ 16 0 4) (-2147483648) 80 := ⟨by have q1 := (iv_any (gV σ 16 0 4)); have q2 := ha4; omega, by have q1 := (iv_any (gV σ 16 0 4)); have q2 := ha4; omega⟩
    exact m_vret C hr hlk (by decide) (by decide) dX0_ringFrom_9 ⟨rfl, hI, Fr.rf, ⟨by rw [bfold_cut ν bn _ pr acc (by rw [bcost_of hst.1]; have q := hac.1; omega)]; exact hac, fun _ _ => rfl⟩⟩

abbrev MS_X0_ringB_2 : List (Nat × Nat) := [(16, 4)]
abbrev AS_X0_ringB_2 : List Nat := [18, 19]
set_option maxHeartbeats 4000000 in
set_option maxRecDepth 100000 in
theorem c_X0_ringB_2 (l : Launch) (G : Gt) (σ : Sg) (bn : Nat) (ν : Nat → Int) (pr : List Nat) (acc : Int × List Nat) (a1 : Int32) (a2 : Int32) (a3 : Int32) (a4 : Int32) (hI : Inv σ) (ha1 : IV a1 3 3) (ha3 : IV a3 (-60) 60) (ha4 : IV a4 0 60) (hrn : RNG σ bn ν) (hν : ∀ b, 0 ≤ ν b ∧ ν b ≤ 20) (hac : ACC σ bn acc) (hor : ORD σ pr) (hrb : RBT a2 pr) (hst : bst ν 0 0 0 pr = (a3.toInt, a4.toInt) ∧ pr.length = 3 ∧ pr.length ≤ bn) : Mc l G yX0_ringFrom cX0_ringFrom 8 none 3 114 0 0 [.ref (G.1 16 0), .int a1, .int a2, .int a3, .int a4] σ (PV fun τ => Inv τ ∧ Fr MS_X0_ringB_2 AS_X0_ringB_2 σ τ ∧ (ACC τ bn ((bperm bn (bn - pr.length) pr).foldl (bupd ν) acc) ∧ ∀ i, i < pr.length → gV τ 18 0 i = gV σ 18 0 i)) := by
  refine Mc.of (L0 := [some (.ref (G.1 16 0)), some (.int a1), some (.int a2), some (.int a3), some (.int a4), none, none, none]) (by decide) (Nat.le_of_ble_eq_true rfl) rfl ?_
  intro p e s m args below meth c C hr hlk
  have C : Cx p s m args c cX0_ringFrom 8 "LeanTower$Bells" := C
  have k0 : (0 : Int32).toInt = 0 := by decide
  have k1 : (1 : Int32).toInt = 1 := by decide
  have J45 : ∀ (n : Nat) (τ : Sg) (y5 : Int32), Inv τ → Fr MS_X0_ringB_2 AS_X0_ringB_2 σ τ → IV a1 3 3 → IV a2 (-2147483648) 2147483647 → IV a3 (-60) 60 → IV a4 0 60 → IV y5 0 5 → (RNG τ bn ν) → ((3 < bn ∧ y5.toInt ≤ (bn : Int))) → (ACC τ bn ((bpart bn (bn - pr.length - 1) pr y5.toInt.toNat).foldl (bupd ν) acc)) → (∀ i, i < pr.length → gV τ 18 0 i = gV σ 18 0 i) → (5 - y5.toInt).toNat < n → MW p l e { frames := 3, cells := 0, slots := 0, locals := 114 } s m args below meth c (MQ below (QP G (PV fun τ => Inv τ ∧ Fr MS_X0_ringB_2 AS_X0_ringB_2 σ τ ∧ (ACC τ bn ((bperm bn (bn - pr.length) pr).foldl (bupd ν) acc) ∧ ∀ i, i < pr.length → gV τ 18 0 i = gV σ 18 0 i))) args s 0 0 (aG G)) 8 G 0 0 45 [some (.ref (G.1 16 0)), some (.int a1), some (.int a2), some (.int a3), some (.int a4), some (.int y5), none, none] [] τ := by
    intro n
    induction n with
    | zero => intro τ y5 iτ fτ b_a1 b_a2 b_a3 b_a4 b_y5 v_RN n1 nA nO hm; exact absurd hm (Nat.not_lt_zero _)
    | succ n ih45 =>
      intro τ y5 iτ fτ b_a1 b_a2 b_a3 b_a4 b_y5 v_RN n1 nA nO hm45
      have u2 : IV (gV τ 16 0 2) 0 5 := iτ.1 16 0 2
      have q3 : (gV τ 16 0 2).toInt = (bn : Int) := v_RN.1
      have q4 := hrn.2.1
      refine m_iload C dX0_ringFrom_45 rfl ?_
      refine m_aload_n C dX0_ringFrom_47 rfl rfl ?_
      refine g_16_2 C q1_151 dX0_ringFrom_48 ?_
      refine m_eqs (w := (gV τ 16 0 2)) rfl ?_
      refine m_icmp_ge (tgt := 135) C dX0_ringFrom_51 (by decide) (fun c5 => ?_) (fun c5 => ?_)
      · have f6 : (gV τ 16 0 2).toInt ≤ y5.toInt := by
          have q : _ := c5
          simp only [ti_nle, ti_nlt, ti_le, ti_lt, ti_eq, ti_ne, Classical.not_not] at q
          omega
        have nA_ : (bn : Int) ≤ y5.toInt → ACC τ bn ((bpart bn (bn - pr.length - 1) pr bn).foldl (bupd ν) acc) := fun g => by rw [show bn = y5.toInt.toNat by omega]; rw [show bn = y5.toInt.toNat by omega] at nA; exact nA
        exact m_vret C hr hlk (by decide) (by decide) dX0_ringFrom_135 ⟨rfl, iτ, fτ, ⟨bwhole (by omega) (nA_ (by omega)), nO⟩⟩
      · have f7 : y5.toInt < (gV τ 16 0 2).toInt := by
          have q : _ := c5
          simp only [ti_nle, ti_nlt, ti_le, ti_lt, ti_eq, ti_ne, Classical.not_not] at q
          omega
        have b8 : IV y5 0 4 := ⟨by have q1 := b_y5; have q2 := u2; omega, by have q1 := b_y5; have q2 := u2; omega⟩
        have b9 : IV (gV τ 16 0 2) 1 5 := ⟨by have q1 := b_y5; have q2 := u2; omega, by have q1 := b_y5; have q2 := u2; omega⟩
        refine m_iload_n C dX0_ringFrom_54 rfl rfl ?_
        refine m_iload C dX0_ringFrom_55 rfl ?_
        refine m_ishr C dX0_ringFrom_57 ?_
        refine m_topi (fun x10 ex10 => ?_)
        refine m_iconst (v := 1) C dX0_ringFrom_58 (by decide) ?_
        refine m_iand C dX0_ringFrom_59 ?_
        refine m_topi (fun x11 ex11 => ?_)
        have b12 : IV x11 0 1 := by rw [ex11]; exact iv_and_r kc_1 (by decide)
        have q14 := hrb.2 y5.toInt.toNat (by omega)
        have q13 : x11.toInt = (bt a2.toInt.toNat y5.toInt.toNat : Int) := bit_i ex11 ex10 ⟨hrb.1.1, by have q := hrb.1.2; omega⟩ (iv_wk b8 (by decide))
        have q15 : bt a2.toInt.toNat y5.toInt.toNat < 2 := Nat.mod_lt _ (by decide)
        refine m_if_ne (tgt := 129) C dX0_ringFrom_60 (by decide) (fun c16 => ?_) (fun c16 => ?_)
        · have f17 : x11.toInt ≠ 0 := by
            have q : _ := c16
            simp only [ti_nle, ti_nlt, ti_le, ti_lt, ti_eq, ti_ne, Classical.not_not, kt_0] at q
            omega
          have b18 : IV x11 1 1 := ⟨by have q1 := b12; have q2 := kc_0; omega, by have q1 := b12; have q2 := kc_0; omega⟩
          obtain ⟨x19, ex19⟩ : ∃ y : Int32, y = y5 + 1 := ⟨_, rfl⟩
          have tx19 : x19.toInt = y5.toInt + 1 := by rw [ex19, ti_addv b8 kc_1 (by decide), kt_1]
          have b20 : IV x19 1 5 := by rw [ex19]; exact iv_add b8 kc_1 (by decide)
          refine m_iinc (v := x19) (L1 := [some (.ref (G.1 16 0)), some (.int a1), some (.int a2), some (.int a3), some (.int a4), some (.int x19), none, none]) C dX0_ringFrom_129 rfl (by rw [ex19]; rfl) (by decide) rfl rfl ?_
          refine m_goto (tgt := 45) C dX0_ringFrom_132 (by decide) ?_
          exact ih45 τ x19 iτ fτ b_a1 b_a2 b_a3 b_a4 (iv_wk b20 (by decide)) v_RN (by omega) (by rw [show x19.toInt.toNat = y5.toInt.toNat + 1 by omega, bpart_in (q14.mp (by omega))]; exact nA) nO (by have q := hm45; omega)
        · have f21 : x11.toInt = 0 := by
            have q : _ := c16
            simp only [ti_nle, ti_nlt, ti_le, ti_lt, ti_eq, ti_ne, Classical.not_not, kt_0] at q
            omega
          have b22 : IV x11 0 0 := ⟨by have q1 := b12; have q2 := kc_0; omega, by have q1 := b12; have q2 := kc_0; omega⟩
          refine m_aload_n C dX0_ringFrom_63 rfl rfl ?_
          refine g_16_1 C q1_150 dX0_ringFrom_64 ?_
          refine m_iload_n C dX0_ringFrom_67 rfl rfl ?_
          refine m_iload C dX0_ringFrom_68 rfl ?_
          refine as_18 C b_a1 (by decide) rfl dX0_ringFrom_70 ?_
          refine m_tops (fun τ23 eτ23 => ?_)
          have i24 : Inv τ23 := eτ23 ▸ Inv.putF iτ (by decide) rfl
          have f25 : Fr MS_X0_ringB_2 AS_X0_ringB_2 σ τ23 := eτ23 ▸ Fr.put (fτ) (Or.inr (by decide))
          have v26 : RNG τ23 bn ν := RNG.put_ v_RN eτ23 (Or.inl (by decide))
          refine m_iload_n C dX0_ringFrom_71 rfl rfl ?_
          refine m_iconst (v := 2) C dX0_ringFrom_72 (by decide) ?_
          refine m_irem C dX0_ringFrom_73 (iv_nz kc_2 (by decide)) ?_
          refine m_topi (fun x27 ex27 => ?_)
          have b28 : IV x27 0 1 := by rw [ex27]; exact iv_rem b_a1 kc_2 (by decide)
          have tx27 : x27.toInt = a1.toInt % 2 := by rw [ex27]; exact ti_rem b_a1 kc_2 (by decide)
          refine m_if_ne (tgt := 89) C dX0_ringFrom_74 (by decide) (fun c29 => ?_) (fun c29 => ?_)
          · have f30 : x27.toInt ≠ 0 := by
              have q : _ := c29
              simp only [ti_nle, ti_nlt, ti_le, ti_lt, ti_eq, ti_ne, Classical.not_not, kt_0] at q
              omega
            have b31 : IV x27 1 1 := ⟨by have q1 := b28; have q2 := kc_0; omega, by have q1 := b28; have q2 := kc_0; omega⟩
            refine m_iload_n C dX0_ringFrom_89 rfl rfl ?_
            refine m_aload_n C dX0_ringFrom_90 rfl rfl ?_
            refine g_16_0 C q1_149 dX0_ringFrom_91 ?_
            refine m_iload C dX0_ringFrom_94 rfl ?_
            refine al_17 C b8 (by decide) rfl dX0_ringFrom_96 ?_
            refine m_topi (fun x32 ex32 => ?_)
            have q33 : x32.toInt = ν (y5.toInt.toNat) := by rw [← v26.2.2 (y5.toInt.toNat) (by omega), show gV τ23 17 0 (y5.toInt.toNat) = x32 from ex32.symm]
            have q35 := hν (y5.toInt.toNat)
            have b34 : IV x32 0 20 := ⟨by omega, by omega⟩
            refine m_isub C dX0_ringFrom_97 ?_
            refine m_topi (fun x36 ex36 => ?_)
            have tx36 : x36.toInt = a3.toInt - x32.toInt := by rw [ex36, ti_subv b_a3 b34 (by decide)]
            have b37 : IV x36 (-80) 60 := by rw [ex36]; exact iv_sub b_a3 b34 (by decide)
            refine m_istore (L1 := [some (.ref (G.1 16 0)), some (.int a1), some (.int a2), some (.int a3), some (.int a4), some (.int y5), some (.int x36), none]) C dX0_ringFrom_98 (by decide) rfl rfl ?_
            refine m_iload C dX0_ringFrom_100 rfl ?_
            refine m_iload C dX0_ringFrom_102 rfl ?_
            refine m_abs (st := [.int a4]) C q3_235 q3_66 q1_19 q3_67 ⟨by decide, Nat.le_of_ble_eq_true rfl⟩ (by decide) dX0_ringFrom_104 (fun x38 ex38 => ?_)
            have tx38 : x38.toInt = max x36.toInt (-x36.toInt) := ti_absv ex38 b37 (by decide)
            have b39 : IV x38 0 80 := ⟨by have q := b37; omega, by have q := b37; omega⟩
            refine m_max (st := []) C q3_236 q3_92 q1_19 q3_93 ⟨by decide, Nat.le_of_ble_eq_true rfl⟩ (by decide) dX0_ringFrom_107 (fun x40 ex40 => ?_)
            have tx40 : x40.toInt = max (a4.toInt) (x38.toInt) := by rw [ti_max ex40]
            have b41 : IV x40 0 80 := ⟨by have q1 := b_a4; have q2 := b39; omega, by have q1 := b_a4; have q2 := b39; omega⟩
            refine m_istore (L1 := [some (.ref (G.1 16 0)), some (.int a1), some (.int a2), some (.int a3), some (.int a4), some (.int y5), some (.int x36), some (.int x40)]) C dX0_ringFrom_110 (by decide) rfl rfl ?_
            refine m_aload_n C dX0_ringFrom_112 rfl rfl ?_
            refine m_iload_n C dX0_ringFrom_113 rfl rfl ?_
            refine m_iconst (v := 1) C dX0_ringFrom_114 (by decide) ?_
            refine m_iadd C dX0_ringFrom_115 ?_
            refine m_topi (fun x42 ex42 => ?_)
            have tx42 : x42.toInt = a1.toInt + 1 := by rw [ex42, ti_addv b_a1 kc_1 (by decide), kt_1]
            have b43 : IV x42 4 4 := by rw [ex42]; exact iv_add b_a1 kc_1 (by decide)
            refine m_iload_n C dX0_ringFrom_116 rfl rfl ?_
            refine m_iconst (v := 1) C dX0_ringFrom_117 (by decide) ?_
            refine m_iload C dX0_ringFrom_118 rfl ?_
            refine m_ishl C dX0_ringFrom_120 ?_
            refine m_topi (fun x44 ex44 => ?_)
            have b45 : IV x44 1 16 := by rw [ex44]; exact iv_shl1 b8 (by decide)
            refine m_ior C dX0_ringFrom_121 ?_
            refine m_topi (fun x46 ex46 => ?_)
            refine m_iload C dX0_ringFrom_122 rfl ?_
            refine m_iload C dX0_ringFrom_124 rfl ?_
            have q47 : (gV τ23 16 0 2).toInt = (gV τ 16 0 2).toInt := congrArg Int32.toInt (show (gV τ23 16 0 2) = (gV τ 16 0 2) from (show gV τ23 16 0 2 = (gV τ 16 0 2) from gV_put eτ23 rfl))
            have q48 : (gV τ23 16 0 4).toInt = (gV τ 16 0 4).toInt := congrArg Int32.toInt (show (gV τ23 16 0 4) = (gV τ 16 0 4) from (show gV τ23 16 0 4 = (gV τ 16 0 4) from gV_put eτ23 rfl))
            refine m_callV (n := 4) (ci := 0) (st := []) C (c_X0_ringB_1 l G τ23 bn ν (pr ++ [y5.toInt.toNat]) ((bpart bn (bn - pr.length - 1) pr y5.toInt.toNat).foldl (bupd ν) acc) (x42) (x46) (x36) (x40) i24 b43 (iv_wk b37 (by decide)) b41 v26 hν (ACC.same nA (gV_putn eτ23 (Or.inl (by decide))) (fun i => gV_putn eτ23 (Or.inl (by decide)))) (ORD.more (hor.same nO) eτ23 (by omega) (by omega)) (RBT.more hrb ex46 ex44 (iv_wk b8 (by decide))) ⟨by rw [bst_one hst.1 hst.2.1, if_neg (by omega)]; exact pr2 (by omega) (by omega), by rw [List.length_append, List.length_singleton, hst.2.1], by rw [List.length_append, List.length_singleton]; omega⟩) (by decide) (by decide) rfl rfl rfl q3_233 q3_230 q3_232 q0_24 q1_5 (by decide +kernel) rfl (by decide) (by decide) rfl (Nat.le_of_ble_eq_true rfl) dX0_ringFrom_126 ?_
            rintro _ τ49 ⟨rfl, i50, f51, h55⟩
            have g54 : Fr MS_X0_ringB_2 AS_X0_ringB_2 σ τ49 := Fr.call (f25) f51 (by decide)
            have v56 : RNG τ49 bn ν := v26.fr f51 (by decide) (by decide) (by simp) (by decide)
            have q57 : (gV τ49 16 0 2).toInt = (gV τ 16 0 2).toInt := congrArg Int32.toInt (show (gV τ49 16 0 2) = (gV τ 16 0 2) from (show gV τ49 16 0 2 = (gV τ 16 0 2) from (f51.1 16 0 (2) (by decide) (by decide)).trans (show gV τ23 16 0 2 = (gV τ 16 0 2) from gV_put eτ23 rfl)))
            show MW p l e _ s m args below meth c _ 8 G 0 0 129 [some (.ref (G.1 16 0)), some (.int a1), some (.int a2), some (.int a3), some (.int a4), some (.int y5), some (.int x36), some (.int x40)] [] τ49
            obtain ⟨x58, ex58⟩ : ∃ y : Int32, y = y5 + 1 := ⟨_, rfl⟩
            have tx58 : x58.toInt = y5.toInt + 1 := by rw [ex58, ti_addv b8 kc_1 (by decide), kt_1]
            have b59 : IV x58 1 5 := by rw [ex58]; exact iv_add b8 kc_1 (by decide)
            refine m_iinc (v := x58) (L1 := [some (.ref (G.1 16 0)), some (.int a1), some (.int a2), some (.int a3), some (.int a4), some (.int x58), some (.int x36), some (.int x40)]) C dX0_ringFrom_129 rfl (by rw [ex58]; rfl) (by decide) rfl rfl ?_
            refine m_goto (tgt := 45) C dX0_ringFrom_132 (by decide) ?_
            refine m_sub (L1 := [some (.ref (G.1 16 0)), some (.int a1), some (.int a2), some (.int a3), some (.int a4), some (.int x58), none, none]) ⟨rfl, ⟨rfl, ⟨rfl, ⟨rfl, ⟨rfl, ⟨rfl, trivial⟩⟩⟩⟩⟩⟩ ?_
            exact ih45 τ49 x58 i50 g54 b_a1 b_a2 b_a3 b_a4 (iv_wk b59 (by decide)) v56 (by omega) (by rw [show x58.toInt.toNat = y5.toInt.toNat + 1 by omega, bpart_out (fun g => by have q := q14.mpr g; omega), List.foldl_append]; exact bstep h55.1) (fun i hi => (h55.2 i (by rw [List.length_append]; omega)).trans ((gV_putn eτ23 (Or.inr (Or.inr (by omega)))).trans (nO i hi))) (by have q := hm45; omega)
          · have f60 : x27.toInt = 0 := by
              have q : _ := c29
              simp only [ti_nle, ti_nlt, ti_le, ti_lt, ti_eq, ti_ne, Classical.not_not, kt_0] at q
              omega
            have b61 : IV x27 0 0 := ⟨by have q1 := b28; have q2 := kc_0; omega, by have q1 := b28; have q2 := kc_0; omega⟩
            refine m_iload_n C dX0_ringFrom_77 rfl rfl ?_
            refine m_aload_n C dX0_ringFrom_78 rfl rfl ?_
            refine g_16_0 C q1_149 dX0_ringFrom_79 ?_
            refine m_iload C dX0_ringFrom_82 rfl ?_
            refine al_17 C b8 (by decide) rfl dX0_ringFrom_84 ?_
            refine m_topi (fun x62 ex62 => ?_)
            have q63 : x62.toInt = ν (y5.toInt.toNat) := by rw [← v26.2.2 (y5.toInt.toNat) (by omega), show gV τ23 17 0 (y5.toInt.toNat) = x62 from ex62.symm]
            have q65 := hν (y5.toInt.toNat)
            have b64 : IV x62 0 20 := ⟨by omega, by omega⟩
            refine m_iadd C dX0_ringFrom_85 ?_
            refine m_topi (fun x66 ex66 => ?_)
            have tx66 : x66.toInt = a3.toInt + x62.toInt := by rw [ex66, ti_addv b_a3 b64 (by decide)]
            have b67 : IV x66 (-60) 80 := by rw [ex66]; exact iv_add b_a3 b64 (by decide)
            refine m_goto (tgt := 98) C dX0_ringFrom_86 (by decide) ?_
            refine m_istore (L1 := [some (.ref (G.1 16 0)), some (.int a1), some (.int a2), some (.int a3), some (.int a4), some (.int y5), some (.int x66), none]) C dX0_ringFrom_98 (by decide) rfl rfl ?_
            refine m_iload C dX0_ringFrom_100 rfl ?_
            refine m_iload C dX0_ringFrom_102 rfl ?_
            refine m_abs (st := [.int a4]) C q3_235 q3_66 q1_19 q3_67 ⟨by decide, Nat.le_of_ble_eq_true rfl⟩ (by decide) dX0_ringFrom_104 (fun x68 ex68 => ?_)
            have tx68 : x68.toInt = max x66.toInt (-x66.toInt) := ti_absv ex68 b67 (by decide)
            have b69 : IV x68 0 80 := ⟨by have q := b67; omega, by have q := b67; omega⟩
            refine m_max (st := []) C q3_236 q3_92 q1_19 q3_93 ⟨by decide, Nat.le_of_ble_eq_true rfl⟩ (by decide) dX0_ringFrom_107 (fun x70 ex70 => ?_)
            have tx70 : x70.toInt = max (a4.toInt) (x68.toInt) := by rw [ti_max ex70]
            have b71 : IV x70 0 80 := ⟨by have q1 := b_a4; have q2 := b69; omega, by have q1 := b_a4; have q2 := b69; omega⟩
            refine m_istore (L1 := [some (.ref (G.1 16 0)), some (.int a1), some (.int a2), some (.int a3), some (.int a4), some (.int y5), some (.int x66), some (.int x70)]) C dX0_ringFrom_110 (by decide) rfl rfl ?_
            refine m_aload_n C dX0_ringFrom_112 rfl rfl ?_
            refine m_iload_n C dX0_ringFrom_113 rfl rfl ?_
            refine m_iconst (v := 1) C dX0_ringFrom_114 (by decide) ?_
            refine m_iadd C dX0_ringFrom_115 ?_
            refine m_topi (fun x72 ex72 => ?_)
            have tx72 : x72.toInt = a1.toInt + 1 := by rw [ex72, ti_addv b_a1 kc_1 (by decide), kt_1]
            have b73 : IV x72 4 4 := by rw [ex72]; exact iv_add b_a1 kc_1 (by decide)
            refine m_iload_n C dX0_ringFrom_116 rfl rfl ?_
            refine m_iconst (v := 1) C dX0_ringFrom_117 (by decide) ?_
            refine m_iload C dX0_ringFrom_118 rfl ?_
            refine m_ishl C dX0_ringFrom_120 ?_
            refine m_topi (fun x74 ex74 => ?_)
            have b75 : IV x74 1 16 := by rw [ex74]; exact iv_shl1 b8 (by decide)
            refine m_ior C dX0_ringFrom_121 ?_
            refine m_topi (fun x76 ex76 => ?_)
            refine m_iload C dX0_ringFrom_122 rfl ?_
            refine m_iload C dX0_ringFrom_124 rfl ?_
            have q77 : (gV τ23 16 0 2).toInt = (gV τ 16 0 2).toInt := congrArg Int32.toInt (show (gV τ23 16 0 2) = (gV τ 16 0 2) from (show gV τ23 16 0 2 = (gV τ 16 0 2) from gV_put eτ23 rfl))
            have q78 : (gV τ23 16 0 4).toInt = (gV τ 16 0 4).toInt := congrArg Int32.toInt (show (gV τ23 16 0 4) = (gV τ 16 0 4) from (show gV τ23 16 0 4 = (gV τ 16 0 4) from gV_put eτ23 rfl))
            refine m_callV (n := 4) (ci := 0) (st := []) C (c_X0_ringB_1 l G τ23 bn ν (pr ++ [y5.toInt.toNat]) ((bpart bn (bn - pr.length - 1) pr y5.toInt.toNat).foldl (bupd ν) acc) (x72) (x76) (x66) (x70) i24 b73 (iv_wk b67 (by decide)) b71 v26 hν (ACC.same nA (gV_putn eτ23 (Or.inl (by decide))) (fun i => gV_putn eτ23 (Or.inl (by decide)))) (ORD.more (hor.same nO) eτ23 (by omega) (by omega)) (RBT.more hrb ex76 ex74 (iv_wk b8 (by decide))) ⟨by rw [bst_one hst.1 hst.2.1, if_pos (by omega)]; exact pr2 (by omega) (by omega), by rw [List.length_append, List.length_singleton, hst.2.1], by rw [List.length_append, List.length_singleton]; omega⟩) (by decide) (by decide) rfl rfl rfl q3_233 q3_230 q3_232 q0_24 q1_5 (by decide +kernel) rfl (by decide) (by decide) rfl (Nat.le_of_ble_eq_true rfl) dX0_ringFrom_126 ?_
            rintro _ τ79 ⟨rfl, i80, f81, h85⟩
            have g84 : Fr MS_X0_ringB_2 AS_X0_ringB_2 σ τ79 := Fr.call (f25) f81 (by decide)
            have v86 : RNG τ79 bn ν := v26.fr f81 (by decide) (by decide) (by simp) (by decide)
            have q87 : (gV τ79 16 0 2).toInt = (gV τ 16 0 2).toInt := congrArg Int32.toInt (show (gV τ79 16 0 2) = (gV τ 16 0 2) from (show gV τ79 16 0 2 = (gV τ 16 0 2) from (f81.1 16 0 (2) (by decide) (by decide)).trans (show gV τ23 16 0 2 = (gV τ 16 0 2) from gV_put eτ23 rfl)))
            show MW p l e _ s m args below meth c _ 8 G 0 0 129 [some (.ref (G.1 16 0)), some (.int a1), some (.int a2), some (.int a3), some (.int a4), some (.int y5), some (.int x66), some (.int x70)] [] τ79
            obtain ⟨x88, ex88⟩ : ∃ y : Int32, y = y5 + 1 := ⟨_, rfl⟩
            have tx88 : x88.toInt = y5.toInt + 1 := by rw [ex88, ti_addv b8 kc_1 (by decide), kt_1]
            have b89 : IV x88 1 5 := by rw [ex88]; exact iv_add b8 kc_1 (by decide)
            refine m_iinc (v := x88) (L1 := [some (.ref (G.1 16 0)), some (.int a1), some (.int a2), some (.int a3), some (.int a4), some (.int x88), some (.int x66), some (.int x70)]) C dX0_ringFrom_129 rfl (by rw [ex88]; rfl) (by decide) rfl rfl ?_
            refine m_goto (tgt := 45) C dX0_ringFrom_132 (by decide) ?_
            refine m_sub (L1 := [some (.ref (G.1 16 0)), some (.int a1), some (.int a2), some (.int a3), some (.int a4), some (.int x88), none, none]) ⟨rfl, ⟨rfl, ⟨rfl, ⟨rfl, ⟨rfl, ⟨rfl, trivial⟩⟩⟩⟩⟩⟩ ?_
            exact ih45 τ79 x88 i80 g84 b_a1 b_a2 b_a3 b_a4 (iv_wk b89 (by decide)) v86 (by omega) (by rw [show x88.toInt.toNat = y5.toInt.toNat + 1 by omega, bpart_out (fun g => by have q := q14.mpr g; omega), List.foldl_append]; exact bstep h85.1) (fun i hi => (h85.2 i (by rw [List.length_append]; omega)).trans ((gV_putn eτ23 (Or.inr (Or.inr (by omega)))).trans (nO i hi))) (by have q := hm45; omega)
  have u90 : IV (gV σ 16 0 2) 0 5 := hI.1 16 0 2
  have q91 : (gV σ 16 0 2).toInt = (bn : Int) := hrn.1
  have q92 := hrn.2.1
  refine m_iload C dX0_ringFrom_0 rfl ?_
  refine m_aload_n C dX0_ringFrom_2 rfl rfl ?_
  refine g_16_4 C q1_154 dX0_ringFrom_3 ?_
  refine m_eqs (w := (gV σ 16 0 4)) rfl ?_
  refine m_icmp_lt (tgt := 10) C dX0_ringFrom_6 (by decide) (fun c93 => ?_) (fun c93 => ?_)
  · have f94 : a4.toInt < (gV σ 16 0 4).toInt := by
      have q : _ := c93
      simp only [ti_nle, ti_nlt, ti_le, ti_lt, ti_eq, ti_ne, Classical.not_not] at q
      omega
    have b95 : IV (gV σ 16 0 4) 1 2147483647 := ⟨by have q1 := ha4; have q2 := (iv_any (gV σ 16 0 4)); omega, by have q1 := ha4; have q2 := (iv_any (gV σ 16 0 4)); omega⟩
    refine m_iload_n C dX0_ringFrom_10 rfl rfl ?_
    refine m_aload_n C dX0_ringFrom_11 rfl rfl ?_
    refine g_16_2 C q1_151 dX0_ringFrom_12 ?_
    refine m_eqs (w := (gV σ 16 0 2)) rfl ?_
    refine m_icmp_lt (tgt := 42) C dX0_ringFrom_15 (by decide) (fun c96 => ?_) (fun c96 => ?_)
    · have f97 : a1.toInt < (gV σ 16 0 2).toInt := by
        have q : _ := c96
        simp only [ti_nle, ti_nlt, ti_le, ti_lt, ti_eq, ti_ne, Classical.not_not] at q
        omega
      have b98 : IV (gV σ 16 0 2) 4 5 := ⟨by have q1 := ha1; have q2 := u90; omega, by have q1 := ha1; have q2 := u90; omega⟩
      refine m_iconst (v := 0) C dX0_ringFrom_42 (by decide) ?_
      refine m_istore (L1 := [some (.ref (G.1 16 0)), some (.int a1), some (.int a2), some (.int a3), some (.int a4), some (.int 0), none, none]) C dX0_ringFrom_43 (by decide) rfl rfl ?_
      exact J45 ((5 - (0 : Int32).toInt).toNat + 1) σ 0 hI Fr.rf ha1 (iv_any a2) ha3 ha4 (iv_wk kc_0 (by decide)) hrn (by omega) (by rw [kn_0, bpart_zero]; exact hac) (fun _ _ => rfl) (Nat.lt_succ_self _)
    · have f99 : (gV σ 16 0 2).toInt ≤ a1.toInt := by
        have q : _ := c96
        simp only [ti_nle, ti_nlt, ti_le, ti_lt, ti_eq, ti_ne, Classical.not_not] at q
        omega
      have b100 : IV (gV σ 16 0 2) 0 3 := ⟨by have q1 := u90; have q2 := ha1; omega, by have q1 := u90; have q2 := ha1; omega⟩
      refine m_aload_n C dX0_ringFrom_18 rfl rfl ?_
      refine m_iload C dX0_ringFrom_19 rfl ?_
      refine p_16_4 C q1_154 dX0_ringFrom_21 ?_
      refine m_tops (fun τ101 eτ101 => ?_)
      have i102 : Inv τ101 := eτ101 ▸ Inv.putF hI (by decide) rfl
      have f103 : Fr MS_X0_ringB_2 AS_X0_ringB_2 σ τ101 := eτ101 ▸ Fr.put (Fr.rf) (Or.inl (by decide))
      have v104 : RNG τ101 bn ν := RNG.put_ hrn eτ101 (Or.inr (by decide))
      refine m_aload_n C dX0_ringFrom_24 rfl rfl ?_
      refine g_16_1 C q1_150 dX0_ringFrom_25 ?_
      refine m_iconst (v := 0) C dX0_ringFrom_28 (by decide) ?_
      refine m_aload_n C dX0_ringFrom_29 rfl rfl ?_
      refine g_16_3 C q1_152 dX0_ringFrom_30 ?_
      refine m_iconst (v := 0) C dX0_ringFrom_33 (by decide) ?_
      refine m_aload_n C dX0_ringFrom_34 rfl rfl ?_
      refine g_16_2 C q1_151 dX0_ringFrom_35 ?_
      refine m_eqs (w := (gV σ 16 0 2)) (show gV τ101 16 0 2 = (gV σ 16 0 2) from gV_put eτ101 rfl) ?_
      have q105 := b100
      have q106 := kt_0
      refine m_copy (t0 := 18) (n0 := 5) (t1 := 19) (n1 := 5) (st := []) C (by decide) (by decide) rfl (by decide) (by decide) (fun _ => rfl) ⟨by omega, by omega, by omega, by omega, by omega⟩ q3_234 q2_30 q2_29 q1_8 ⟨by decide, by decide +kernel⟩ dX0_ringFrom_38 ?_
      refine m_tops (fun τ107 eτ107 => ?_)
      have i108 : Inv τ107 := eτ107 ▸ Inv.putRow i102 (by decide) (fun _ => rfl)
      have f109 : Fr MS_X0_ringB_2 AS_X0_ringB_2 σ τ107 := eτ107 ▸ Fr.putRow (f103) (by decide)
      exact m_vret C hr hlk (by decide) (by decide) dX0_ringFrom_41 ⟨rfl, i108, f109, ⟨by rw [bleaf (by omega) (by rw [bcost_of hst.1]; have q := hac.1; omega), bcost_of hst.1]; exact ACC.leaf hor eτ101 eτ107 (by decide) (by decide) (by omega) (by omega) rfl, fun i _ => by rw [eτ107, gV_sR (Or.inl (by decide)), gV_putn eτ101 (Or.inl (by decide))]⟩⟩
  · have f110 : (gV σ 16 0 4).toInt ≤ a4.toInt := by
      have q : _ := c93
      simp only [ti_nle, ti_nlt, ti_le, ti_lt, ti_eq, ti_ne, Classical.not_not] at q
      omega
    have b111 : IV (gV σ 16 0 4) (-2147483648) 60 := ⟨by have q1 := (iv_any (gV σ 16 0 4)); have q2 := ha4; omega, by have q1 := (iv_any (gV σ 16 0 4)); have q2 := ha4; omega⟩
    exact m_vret C hr hlk (by decide) (by decide) dX0_ringFrom_9 ⟨rfl, hI, Fr.rf, ⟨by rw [bfold_cut ν bn _ pr acc (by rw [bcost_of hst.1]; have q := hac.1; omega)]; exact hac, fun _ _ => rfl⟩⟩

abbrev MS_X0_ringB_3 : List (Nat × Nat) := [(16, 4)]
abbrev AS_X0_ringB_3 : List Nat := [18, 19]
set_option maxHeartbeats 4000000 in
set_option maxRecDepth 100000 in
theorem c_X0_ringB_3 (l : Launch) (G : Gt) (σ : Sg) (bn : Nat) (ν : Nat → Int) (pr : List Nat) (acc : Int × List Nat) (a1 : Int32) (a2 : Int32) (a3 : Int32) (a4 : Int32) (hI : Inv σ) (ha1 : IV a1 2 2) (ha3 : IV a3 (-40) 40) (ha4 : IV a4 0 40) (hrn : RNG σ bn ν) (hν : ∀ b, 0 ≤ ν b ∧ ν b ≤ 20) (hac : ACC σ bn acc) (hor : ORD σ pr) (hrb : RBT a2 pr) (hst : bst ν 0 0 0 pr = (a3.toInt, a4.toInt) ∧ pr.length = 2 ∧ pr.length ≤ bn) : Mc l G yX0_ringFrom cX0_ringFrom 8 none 4 141 0 0 [.ref (G.1 16 0), .int a1, .int a2, .int a3, .int a4] σ (PV fun τ => Inv τ ∧ Fr MS_X0_ringB_3 AS_X0_ringB_3 σ τ ∧ (ACC τ bn ((bperm bn (bn - pr.length) pr).foldl (bupd ν) acc) ∧ ∀ i, i < pr.length → gV τ 18 0 i = gV σ 18 0 i)) := by
  refine Mc.of (L0 := [some (.ref (G.1 16 0)), some (.int a1), some (.int a2), some (.int a3), some (.int a4), none, none, none]) (by decide) (Nat.le_of_ble_eq_true rfl) rfl ?_
  intro p e s m args below meth c C hr hlk
  have C : Cx p s m args c cX0_ringFrom 8 "LeanTower$Bells" := C
  have k0 : (0 : Int32).toInt = 0 := by decide
  have k1 : (1 : Int32).toInt = 1 := by decide
  have J45 : ∀ (n : Nat) (τ : Sg) (y5 : Int32), Inv τ → Fr MS_X0_ringB_3 AS_X0_ringB_3 σ τ → IV a1 2 2 → IV a2 (-2147483648) 2147483647 → IV a3 (-40) 40 → IV a4 0 40 → IV y5 0 5 → (RNG τ bn ν) → ((2 < bn ∧ y5.toInt ≤ (bn : Int))) → (ACC τ bn ((bpart bn (bn - pr.length - 1) pr y5.toInt.toNat).foldl (bupd ν) acc)) → (∀ i, i < pr.length → gV τ 18 0 i = gV σ 18 0 i) → (5 - y5.toInt).toNat < n → MW p l e { frames := 4, cells := 0, slots := 0, locals := 141 } s m args below meth c (MQ below (QP G (PV fun τ => Inv τ ∧ Fr MS_X0_ringB_3 AS_X0_ringB_3 σ τ ∧ (ACC τ bn ((bperm bn (bn - pr.length) pr).foldl (bupd ν) acc) ∧ ∀ i, i < pr.length → gV τ 18 0 i = gV σ 18 0 i))) args s 0 0 (aG G)) 8 G 0 0 45 [some (.ref (G.1 16 0)), some (.int a1), some (.int a2), some (.int a3), some (.int a4), some (.int y5), none, none] [] τ := by
    intro n
    induction n with
    | zero => intro τ y5 iτ fτ b_a1 b_a2 b_a3 b_a4 b_y5 v_RN n1 nA nO hm; exact absurd hm (Nat.not_lt_zero _)
    | succ n ih45 =>
      intro τ y5 iτ fτ b_a1 b_a2 b_a3 b_a4 b_y5 v_RN n1 nA nO hm45
      have u2 : IV (gV τ 16 0 2) 0 5 := iτ.1 16 0 2
      have q3 : (gV τ 16 0 2).toInt = (bn : Int) := v_RN.1
      have q4 := hrn.2.1
      refine m_iload C dX0_ringFrom_45 rfl ?_
      refine m_aload_n C dX0_ringFrom_47 rfl rfl ?_
      refine g_16_2 C q1_151 dX0_ringFrom_48 ?_
      refine m_eqs (w := (gV τ 16 0 2)) rfl ?_
      refine m_icmp_ge (tgt := 135) C dX0_ringFrom_51 (by decide) (fun c5 => ?_) (fun c5 => ?_)
      · have f6 : (gV τ 16 0 2).toInt ≤ y5.toInt := by
          have q : _ := c5
          simp only [ti_nle, ti_nlt, ti_le, ti_lt, ti_eq, ti_ne, Classical.not_not] at q
          omega
        have nA_ : (bn : Int) ≤ y5.toInt → ACC τ bn ((bpart bn (bn - pr.length - 1) pr bn).foldl (bupd ν) acc) := fun g => by rw [show bn = y5.toInt.toNat by omega]; rw [show bn = y5.toInt.toNat by omega] at nA; exact nA
        exact m_vret C hr hlk (by decide) (by decide) dX0_ringFrom_135 ⟨rfl, iτ, fτ, ⟨bwhole (by omega) (nA_ (by omega)), nO⟩⟩
      · have f7 : y5.toInt < (gV τ 16 0 2).toInt := by
          have q : _ := c5
          simp only [ti_nle, ti_nlt, ti_le, ti_lt, ti_eq, ti_ne, Classical.not_not] at q
          omega
        have b8 : IV y5 0 4 := ⟨by have q1 := b_y5; have q2 := u2; omega, by have q1 := b_y5; have q2 := u2; omega⟩
        have b9 : IV (gV τ 16 0 2) 1 5 := ⟨by have q1 := b_y5; have q2 := u2; omega, by have q1 := b_y5; have q2 := u2; omega⟩
        refine m_iload_n C dX0_ringFrom_54 rfl rfl ?_
        refine m_iload C dX0_ringFrom_55 rfl ?_
        refine m_ishr C dX0_ringFrom_57 ?_
        refine m_topi (fun x10 ex10 => ?_)
        refine m_iconst (v := 1) C dX0_ringFrom_58 (by decide) ?_
        refine m_iand C dX0_ringFrom_59 ?_
        refine m_topi (fun x11 ex11 => ?_)
        have b12 : IV x11 0 1 := by rw [ex11]; exact iv_and_r kc_1 (by decide)
        have q14 := hrb.2 y5.toInt.toNat (by omega)
        have q13 : x11.toInt = (bt a2.toInt.toNat y5.toInt.toNat : Int) := bit_i ex11 ex10 ⟨hrb.1.1, by have q := hrb.1.2; omega⟩ (iv_wk b8 (by decide))
        have q15 : bt a2.toInt.toNat y5.toInt.toNat < 2 := Nat.mod_lt _ (by decide)
        refine m_if_ne (tgt := 129) C dX0_ringFrom_60 (by decide) (fun c16 => ?_) (fun c16 => ?_)
        · have f17 : x11.toInt ≠ 0 := by
            have q : _ := c16
            simp only [ti_nle, ti_nlt, ti_le, ti_lt, ti_eq, ti_ne, Classical.not_not, kt_0] at q
            omega
          have b18 : IV x11 1 1 := ⟨by have q1 := b12; have q2 := kc_0; omega, by have q1 := b12; have q2 := kc_0; omega⟩
          obtain ⟨x19, ex19⟩ : ∃ y : Int32, y = y5 + 1 := ⟨_, rfl⟩
          have tx19 : x19.toInt = y5.toInt + 1 := by rw [ex19, ti_addv b8 kc_1 (by decide), kt_1]
          have b20 : IV x19 1 5 := by rw [ex19]; exact iv_add b8 kc_1 (by decide)
          refine m_iinc (v := x19) (L1 := [some (.ref (G.1 16 0)), some (.int a1), some (.int a2), some (.int a3), some (.int a4), some (.int x19), none, none]) C dX0_ringFrom_129 rfl (by rw [ex19]; rfl) (by decide) rfl rfl ?_
          refine m_goto (tgt := 45) C dX0_ringFrom_132 (by decide) ?_
          exact ih45 τ x19 iτ fτ b_a1 b_a2 b_a3 b_a4 (iv_wk b20 (by decide)) v_RN (by omega) (by rw [show x19.toInt.toNat = y5.toInt.toNat + 1 by omega, bpart_in (q14.mp (by omega))]; exact nA) nO (by have q := hm45; omega)
        · have f21 : x11.toInt = 0 := by
            have q : _ := c16
            simp only [ti_nle, ti_nlt, ti_le, ti_lt, ti_eq, ti_ne, Classical.not_not, kt_0] at q
            omega
          have b22 : IV x11 0 0 := ⟨by have q1 := b12; have q2 := kc_0; omega, by have q1 := b12; have q2 := kc_0; omega⟩
          refine m_aload_n C dX0_ringFrom_63 rfl rfl ?_
          refine g_16_1 C q1_150 dX0_ringFrom_64 ?_
          refine m_iload_n C dX0_ringFrom_67 rfl rfl ?_
          refine m_iload C dX0_ringFrom_68 rfl ?_
          refine as_18 C b_a1 (by decide) rfl dX0_ringFrom_70 ?_
          refine m_tops (fun τ23 eτ23 => ?_)
          have i24 : Inv τ23 := eτ23 ▸ Inv.putF iτ (by decide) rfl
          have f25 : Fr MS_X0_ringB_3 AS_X0_ringB_3 σ τ23 := eτ23 ▸ Fr.put (fτ) (Or.inr (by decide))
          have v26 : RNG τ23 bn ν := RNG.put_ v_RN eτ23 (Or.inl (by decide))
          refine m_iload_n C dX0_ringFrom_71 rfl rfl ?_
          refine m_iconst (v := 2) C dX0_ringFrom_72 (by decide) ?_
          refine m_irem C dX0_ringFrom_73 (iv_nz kc_2 (by decide)) ?_
          refine m_topi (fun x27 ex27 => ?_)
          have b28 : IV x27 0 1 := by rw [ex27]; exact iv_rem b_a1 kc_2 (by decide)
          have tx27 : x27.toInt = a1.toInt % 2 := by rw [ex27]; exact ti_rem b_a1 kc_2 (by decide)
          refine m_if_ne (tgt := 89) C dX0_ringFrom_74 (by decide) (fun c29 => ?_) (fun c29 => ?_)
          · have f30 : x27.toInt ≠ 0 := by
              have q : _ := c29
              simp only [ti_nle, ti_nlt, ti_le, ti_lt, ti_eq, ti_ne, Classical.not_not, kt_0] at q
              omega
            have b31 : IV x27 1 1 := ⟨by have q1 := b28; have q2 := kc_0; omega, by have q1 := b28; have q2 := kc_0; omega⟩
            refine m_iload_n C dX0_ringFrom_89 rfl rfl ?_
            refine m_aload_n C dX0_ringFrom_90 rfl rfl ?_
            refine g_16_0 C q1_149 dX0_ringFrom_91 ?_
            refine m_iload C dX0_ringFrom_94 rfl ?_
            refine al_17 C b8 (by decide) rfl dX0_ringFrom_96 ?_
            refine m_topi (fun x32 ex32 => ?_)
            have q33 : x32.toInt = ν (y5.toInt.toNat) := by rw [← v26.2.2 (y5.toInt.toNat) (by omega), show gV τ23 17 0 (y5.toInt.toNat) = x32 from ex32.symm]
            have q35 := hν (y5.toInt.toNat)
            have b34 : IV x32 0 20 := ⟨by omega, by omega⟩
            refine m_isub C dX0_ringFrom_97 ?_
            refine m_topi (fun x36 ex36 => ?_)
            have tx36 : x36.toInt = a3.toInt - x32.toInt := by rw [ex36, ti_subv b_a3 b34 (by decide)]
            have b37 : IV x36 (-60) 40 := by rw [ex36]; exact iv_sub b_a3 b34 (by decide)
            refine m_istore (L1 := [some (.ref (G.1 16 0)), some (.int a1), some (.int a2), some (.int a3), some (.int a4), some (.int y5), some (.int x36), none]) C dX0_ringFrom_98 (by decide) rfl rfl ?_
            refine m_iload C dX0_ringFrom_100 rfl ?_
            refine m_iload C dX0_ringFrom_102 rfl ?_
            refine m_abs (st := [.int a4]) C q3_235 q3_66 q1_19 q3_67 ⟨by decide, Nat.le_of_ble_eq_true rfl⟩ (by decide) dX0_ringFrom_104 (fun x38 ex38 => ?_)
            have tx38 : x38.toInt = max x36.toInt (-x36.toInt) := ti_absv ex38 b37 (by decide)
            have b39 : IV x38 0 60 := ⟨by have q := b37; omega, by have q := b37; omega⟩
            refine m_max (st := []) C q3_236 q3_92 q1_19 q3_93 ⟨by decide, Nat.le_of_ble_eq_true rfl⟩ (by decide) dX0_ringFrom_107 (fun x40 ex40 => ?_)
            have tx40 : x40.toInt = max (a4.toInt) (x38.toInt) := by rw [ti_max ex40]
            have b41 : IV x40 0 60 := ⟨by have q1 := b_a4; have q2 := b39; omega, by have q1 := b_a4; have q2 := b39; omega⟩
            refine m_istore (L1 := [some (.ref (G.1 16 0)), some (.int a1), some (.int a2), some (.int a3), some (.int a4), some (.int y5), some (.int x36), some (.int x40)]) C dX0_ringFrom_110 (by decide) rfl rfl ?_
            refine m_aload_n C dX0_ringFrom_112 rfl rfl ?_
            refine m_iload_n C dX0_ringFrom_113 rfl rfl ?_
            refine m_iconst (v := 1) C dX0_ringFrom_114 (by decide) ?_
            refine m_iadd C dX0_ringFrom_115 ?_
            refine m_topi (fun x42 ex42 => ?_)
            have tx42 : x42.toInt = a1.toInt + 1 := by rw [ex42, ti_addv b_a1 kc_1 (by decide), kt_1]
            have b43 : IV x42 3 3 := by rw [ex42]; exact iv_add b_a1 kc_1 (by decide)
            refine m_iload_n C dX0_ringFrom_116 rfl rfl ?_
            refine m_iconst (v := 1) C dX0_ringFrom_117 (by decide) ?_
            refine m_iload C dX0_ringFrom_118 rfl ?_
            refine m_ishl C dX0_ringFrom_120 ?_
            refine m_topi (fun x44 ex44 => ?_)
            have b45 : IV x44 1 16 := by rw [ex44]; exact iv_shl1 b8 (by decide)
            refine m_ior C dX0_ringFrom_121 ?_
            refine m_topi (fun x46 ex46 => ?_)
            refine m_iload C dX0_ringFrom_122 rfl ?_
            refine m_iload C dX0_ringFrom_124 rfl ?_
            have q47 : (gV τ23 16 0 2).toInt = (gV τ 16 0 2).toInt := congrArg Int32.toInt (show (gV τ23 16 0 2) = (gV τ 16 0 2) from (show gV τ23 16 0 2 = (gV τ 16 0 2) from gV_put eτ23 rfl))
            have q48 : (gV τ23 16 0 4).toInt = (gV τ 16 0 4).toInt := congrArg Int32.toInt (show (gV τ23 16 0 4) = (gV τ 16 0 4) from (show gV τ23 16 0 4 = (gV τ 16 0 4) from gV_put eτ23 rfl))
            refine m_callV (n := 4) (ci := 0) (st := []) C (c_X0_ringB_2 l G τ23 bn ν (pr ++ [y5.toInt.toNat]) ((bpart bn (bn - pr.length - 1) pr y5.toInt.toNat).foldl (bupd ν) acc) (x42) (x46) (x36) (x40) i24 b43 (iv_wk b37 (by decide)) b41 v26 hν (ACC.same nA (gV_putn eτ23 (Or.inl (by decide))) (fun i => gV_putn eτ23 (Or.inl (by decide)))) (ORD.more (hor.same nO) eτ23 (by omega) (by omega)) (RBT.more hrb ex46 ex44 (iv_wk b8 (by decide))) ⟨by rw [bst_one hst.1 hst.2.1, if_neg (by omega)]; exact pr2 (by omega) (by omega), by rw [List.length_append, List.length_singleton, hst.2.1], by rw [List.length_append, List.length_singleton]; omega⟩) (by decide) (by decide) rfl rfl rfl q3_233 q3_230 q3_232 q0_24 q1_5 (by decide +kernel) rfl (by decide) (by decide) rfl (Nat.le_of_ble_eq_true rfl) dX0_ringFrom_126 ?_
            rintro _ τ49 ⟨rfl, i50, f51, h55⟩
            have g54 : Fr MS_X0_ringB_3 AS_X0_ringB_3 σ τ49 := Fr.call (f25) f51 (by decide)
            have v56 : RNG τ49 bn ν := v26.fr f51 (by decide) (by decide) (by simp) (by decide)
            have q57 : (gV τ49 16 0 2).toInt = (gV τ 16 0 2).toInt := congrArg Int32.toInt (show (gV τ49 16 0 2) = (gV τ 16 0 2) from (show gV τ49 16 0 2 = (gV τ 16 0 2) from (f51.1 16 0 (2) (by decide) (by decide)).trans (show gV τ23 16 0 2 = (gV τ 16 0 2) from gV_put eτ23 rfl)))
            show MW p l e _ s m args below meth c _ 8 G 0 0 129 [some (.ref (G.1 16 0)), some (.int a1), some (.int a2), some (.int a3), some (.int a4), some (.int y5), some (.int x36), some (.int x40)] [] τ49
            obtain ⟨x58, ex58⟩ : ∃ y : Int32, y = y5 + 1 := ⟨_, rfl⟩
            have tx58 : x58.toInt = y5.toInt + 1 := by rw [ex58, ti_addv b8 kc_1 (by decide), kt_1]
            have b59 : IV x58 1 5 := by rw [ex58]; exact iv_add b8 kc_1 (by decide)
            refine m_iinc (v := x58) (L1 := [some (.ref (G.1 16 0)), some (.int a1), some (.int a2), some (.int a3), some (.int a4), some (.int x58), some (.int x36), some (.int x40)]) C dX0_ringFrom_129 rfl (by rw [ex58]; rfl) (by decide) rfl rfl ?_
            refine m_goto (tgt := 45) C dX0_ringFrom_132 (by decide) ?_
            refine m_sub (L1 := [some (.ref (G.1 16 0)), some (.int a1), some (.int a2), some (.int a3), some (.int a4), some (.int x58), none, none]) ⟨rfl, ⟨rfl, ⟨rfl, ⟨rfl, ⟨rfl, ⟨rfl, trivial⟩⟩⟩⟩⟩⟩ ?_
            exact ih45 τ49 x58 i50 g54 b_a1 b_a2 b_a3 b_a4 (iv_wk b59 (by decide)) v56 (by omega) (by rw [show x58.toInt.toNat = y5.toInt.toNat + 1 by omega, bpart_out (fun g => by have q := q14.mpr g; omega), List.foldl_append]; exact bstep h55.1) (fun i hi => (h55.2 i (by rw [List.length_append]; omega)).trans ((gV_putn eτ23 (Or.inr (Or.inr (by omega)))).trans (nO i hi))) (by have q := hm45; omega)
          · have f60 : x27.toInt = 0 := by
              have q : _ := c29
              simp only [ti_nle, ti_nlt, ti_le, ti_lt, ti_eq, ti_ne, Classical.not_not, kt_0] at q
              omega
            have b61 : IV x27 0 0 := ⟨by have q1 := b28; have q2 := kc_0; omega, by have q1 := b28; have q2 := kc_0; omega⟩
            refine m_iload_n C dX0_ringFrom_77 rfl rfl ?_
            refine m_aload_n C dX0_ringFrom_78 rfl rfl ?_
            refine g_16_0 C q1_149 dX0_ringFrom_79 ?_
            refine m_iload C dX0_ringFrom_82 rfl ?_
            refine al_17 C b8 (by decide) rfl dX0_ringFrom_84 ?_
            refine m_topi (fun x62 ex62 => ?_)
            have q63 : x62.toInt = ν (y5.toInt.toNat) := by rw [← v26.2.2 (y5.toInt.toNat) (by omega), show gV τ23 17 0 (y5.toInt.toNat) = x62 from ex62.symm]
            have q65 := hν (y5.toInt.toNat)
            have b64 : IV x62 0 20 := ⟨by omega, by omega⟩
            refine m_iadd C dX0_ringFrom_85 ?_
            refine m_topi (fun x66 ex66 => ?_)
            have tx66 : x66.toInt = a3.toInt + x62.toInt := by rw [ex66, ti_addv b_a3 b64 (by decide)]
            have b67 : IV x66 (-40) 60 := by rw [ex66]; exact iv_add b_a3 b64 (by decide)
            refine m_goto (tgt := 98) C dX0_ringFrom_86 (by decide) ?_
            refine m_istore (L1 := [some (.ref (G.1 16 0)), some (.int a1), some (.int a2), some (.int a3), some (.int a4), some (.int y5), some (.int x66), none]) C dX0_ringFrom_98 (by decide) rfl rfl ?_
            refine m_iload C dX0_ringFrom_100 rfl ?_
            refine m_iload C dX0_ringFrom_102 rfl ?_
            refine m_abs (st := [.int a4]) C q3_235 q3_66 q1_19 q3_67 ⟨by decide, Nat.le_of_ble_eq_true rfl⟩ (by decide) dX0_ringFrom_104 (fun x68 ex68 => ?_)
            have tx68 : x68.toInt = max x66.toInt (-x66.toInt) := ti_absv ex68 b67 (by decide)
            have b69 : IV x68 0 60 := ⟨by have q := b67; omega, by have q := b67; omega⟩
            refine m_max (st := []) C q3_236 q3_92 q1_19 q3_93 ⟨by decide, Nat.le_of_ble_eq_true rfl⟩ (by decide) dX0_ringFrom_107 (fun x70 ex70 => ?_)
            have tx70 : x70.toInt = max (a4.toInt) (x68.toInt) := by rw [ti_max ex70]
            have b71 : IV x70 0 60 := ⟨by have q1 := b_a4; have q2 := b69; omega, by have q1 := b_a4; have q2 := b69; omega⟩
            refine m_istore (L1 := [some (.ref (G.1 16 0)), some (.int a1), some (.int a2), some (.int a3), some (.int a4), some (.int y5), some (.int x66), some (.int x70)]) C dX0_ringFrom_110 (by decide) rfl rfl ?_
            refine m_aload_n C dX0_ringFrom_112 rfl rfl ?_
            refine m_iload_n C dX0_ringFrom_113 rfl rfl ?_
            refine m_iconst (v := 1) C dX0_ringFrom_114 (by decide) ?_
            refine m_iadd C dX0_ringFrom_115 ?_
            refine m_topi (fun x72 ex72 => ?_)
            have tx72 : x72.toInt = a1.toInt + 1 := by rw [ex72, ti_addv b_a1 kc_1 (by decide), kt_1]
            have b73 : IV x72 3 3 := by rw [ex72]; exact iv_add b_a1 kc_1 (by decide)
            refine m_iload_n C dX0_ringFrom_116 rfl rfl ?_
            refine m_iconst (v := 1) C dX0_ringFrom_117 (by decide) ?_
            refine m_iload C dX0_ringFrom_118 rfl ?_
            refine m_ishl C dX0_ringFrom_120 ?_
            refine m_topi (fun x74 ex74 => ?_)
            have b75 : IV x74 1 16 := by rw [ex74]; exact iv_shl1 b8 (by decide)
            refine m_ior C dX0_ringFrom_121 ?_
            refine m_topi (fun x76 ex76 => ?_)
            refine m_iload C dX0_ringFrom_122 rfl ?_
            refine m_iload C dX0_ringFrom_124 rfl ?_
            have q77 : (gV τ23 16 0 2).toInt = (gV τ 16 0 2).toInt := congrArg Int32.toInt (show (gV τ23 16 0 2) = (gV τ 16 0 2) from (show gV τ23 16 0 2 = (gV τ 16 0 2) from gV_put eτ23 rfl))
            have q78 : (gV τ23 16 0 4).toInt = (gV τ 16 0 4).toInt := congrArg Int32.toInt (show (gV τ23 16 0 4) = (gV τ 16 0 4) from (show gV τ23 16 0 4 = (gV τ 16 0 4) from gV_put eτ23 rfl))
            refine m_callV (n := 4) (ci := 0) (st := []) C (c_X0_ringB_2 l G τ23 bn ν (pr ++ [y5.toInt.toNat]) ((bpart bn (bn - pr.length - 1) pr y5.toInt.toNat).foldl (bupd ν) acc) (x72) (x76) (x66) (x70) i24 b73 (iv_wk b67 (by decide)) b71 v26 hν (ACC.same nA (gV_putn eτ23 (Or.inl (by decide))) (fun i => gV_putn eτ23 (Or.inl (by decide)))) (ORD.more (hor.same nO) eτ23 (by omega) (by omega)) (RBT.more hrb ex76 ex74 (iv_wk b8 (by decide))) ⟨by rw [bst_one hst.1 hst.2.1, if_pos (by omega)]; exact pr2 (by omega) (by omega), by rw [List.length_append, List.length_singleton, hst.2.1], by rw [List.length_append, List.length_singleton]; omega⟩) (by decide) (by decide) rfl rfl rfl q3_233 q3_230 q3_232 q0_24 q1_5 (by decide +kernel) rfl (by decide) (by decide) rfl (Nat.le_of_ble_eq_true rfl) dX0_ringFrom_126 ?_
            rintro _ τ79 ⟨rfl, i80, f81, h85⟩
            have g84 : Fr MS_X0_ringB_3 AS_X0_ringB_3 σ τ79 := Fr.call (f25) f81 (by decide)
            have v86 : RNG τ79 bn ν := v26.fr f81 (by decide) (by decide) (by simp) (by decide)
            have q87 : (gV τ79 16 0 2).toInt = (gV τ 16 0 2).toInt := congrArg Int32.toInt (show (gV τ79 16 0 2) = (gV τ 16 0 2) from (show gV τ79 16 0 2 = (gV τ 16 0 2) from (f81.1 16 0 (2) (by decide) (by decide)).trans (show gV τ23 16 0 2 = (gV τ 16 0 2) from gV_put eτ23 rfl)))
            show MW p l e _ s m args below meth c _ 8 G 0 0 129 [some (.ref (G.1 16 0)), some (.int a1), some (.int a2), some (.int a3), some (.int a4), some (.int y5), some (.int x66), some (.int x70)] [] τ79
            obtain ⟨x88, ex88⟩ : ∃ y : Int32, y = y5 + 1 := ⟨_, rfl⟩
            have tx88 : x88.toInt = y5.toInt + 1 := by rw [ex88, ti_addv b8 kc_1 (by decide), kt_1]
            have b89 : IV x88 1 5 := by rw [ex88]; exact iv_add b8 kc_1 (by decide)
            refine m_iinc (v := x88) (L1 := [some (.ref (G.1 16 0)), some (.int a1), some (.int a2), some (.int a3), some (.int a4), some (.int x88), some (.int x66), some (.int x70)]) C dX0_ringFrom_129 rfl (by rw [ex88]; rfl) (by decide) rfl rfl ?_
            refine m_goto (tgt := 45) C dX0_ringFrom_132 (by decide) ?_
            refine m_sub (L1 := [some (.ref (G.1 16 0)), some (.int a1), some (.int a2), some (.int a3), some (.int a4), some (.int x88), none, none]) ⟨rfl, ⟨rfl, ⟨rfl, ⟨rfl, ⟨rfl, ⟨rfl, trivial⟩⟩⟩⟩⟩⟩ ?_
            exact ih45 τ79 x88 i80 g84 b_a1 b_a2 b_a3 b_a4 (iv_wk b89 (by decide)) v86 (by omega) (by rw [show x88.toInt.toNat = y5.toInt.toNat + 1 by omega, bpart_out (fun g => by have q := q14.mpr g; omega), List.foldl_append]; exact bstep h85.1) (fun i hi => (h85.2 i (by rw [List.length_append]; omega)).trans ((gV_putn eτ23 (Or.inr (Or.inr (by omega)))).trans (nO i hi))) (by have q := hm45; omega)
  have u90 : IV (gV σ 16 0 2) 0 5 := hI.1 16 0 2
  have q91 : (gV σ 16 0 2).toInt = (bn : Int) := hrn.1
  have q92 := hrn.2.1
  refine m_iload C dX0_ringFrom_0 rfl ?_
  refine m_aload_n C dX0_ringFrom_2 rfl rfl ?_
  refine g_16_4 C q1_154 dX0_ringFrom_3 ?_
  refine m_eqs (w := (gV σ 16 0 4)) rfl ?_
  refine m_icmp_lt (tgt := 10) C dX0_ringFrom_6 (by decide) (fun c93 => ?_) (fun c93 => ?_)
  · have f94 : a4.toInt < (gV σ 16 0 4).toInt := by
      have q : _ := c93
      simp only [ti_nle, ti_nlt, ti_le, ti_lt, ti_eq, ti_ne, Classical.not_not] at q
      omega
    have b95 : IV (gV σ 16 0 4) 1 2147483647 := ⟨by have q1 := ha4; have q2 := (iv_any (gV σ 16 0 4)); omega, by have q1 := ha4; have q2 := (iv_any (gV σ 16 0 4)); omega⟩
    refine m_iload_n C dX0_ringFrom_10 rfl rfl ?_
    refine m_aload_n C dX0_ringFrom_11 rfl rfl ?_
    refine g_16_2 C q1_151 dX0_ringFrom_12 ?_
    refine m_eqs (w := (gV σ 16 0 2)) rfl ?_
    refine m_icmp_lt (tgt := 42) C dX0_ringFrom_15 (by decide) (fun c96 => ?_) (fun c96 => ?_)
    · have f97 : a1.toInt < (gV σ 16 0 2).toInt := by
        have q : _ := c96
        simp only [ti_nle, ti_nlt, ti_le, ti_lt, ti_eq, ti_ne, Classical.not_not] at q
        omega
      have b98 : IV (gV σ 16 0 2) 3 5 := ⟨by have q1 := ha1; have q2 := u90; omega, by have q1 := ha1; have q2 := u90; omega⟩
      refine m_iconst (v := 0) C dX0_ringFrom_42 (by decide) ?_
      refine m_istore (L1 := [some (.ref (G.1 16 0)), some (.int a1), some (.int a2), some (.int a3), some (.int a4), some (.int 0), none, none]) C dX0_ringFrom_43 (by decide) rfl rfl ?_
      exact J45 ((5 - (0 : Int32).toInt).toNat + 1) σ 0 hI Fr.rf ha1 (iv_any a2) ha3 ha4 (iv_wk kc_0 (by decide)) hrn (by omega) (by rw [kn_0, bpart_zero]; exact hac) (fun _ _ => rfl) (Nat.lt_succ_self _)
    · have f99 : (gV σ 16 0 2).toInt ≤ a1.toInt := by
        have q : _ := c96
        simp only [ti_nle, ti_nlt, ti_le, ti_lt, ti_eq, ti_ne, Classical.not_not] at q
        omega
      have b100 : IV (gV σ 16 0 2) 0 2 := ⟨by have q1 := u90; have q2 := ha1; omega, by have q1 := u90; have q2 := ha1; omega⟩
      refine m_aload_n C dX0_ringFrom_18 rfl rfl ?_
      refine m_iload C dX0_ringFrom_19 rfl ?_
      refine p_16_4 C q1_154 dX0_ringFrom_21 ?_
      refine m_tops (fun τ101 eτ101 => ?_)
      have i102 : Inv τ101 := eτ101 ▸ Inv.putF hI (by decide) rfl
      have f103 : Fr MS_X0_ringB_3 AS_X0_ringB_3 σ τ101 := eτ101 ▸ Fr.put (Fr.rf) (Or.inl (by decide))
      have v104 : RNG τ101 bn ν := RNG.put_ hrn eτ101 (Or.inr (by decide))
      refine m_aload_n C dX0_ringFrom_24 rfl rfl ?_
      refine g_16_1 C q1_150 dX0_ringFrom_25 ?_
      refine m_iconst (v := 0) C dX0_ringFrom_28 (by decide) ?_
      refine m_aload_n C dX0_ringFrom_29 rfl rfl ?_
      refine g_16_3 C q1_152 dX0_ringFrom_30 ?_
      refine m_iconst (v := 0) C dX0_ringFrom_33 (by decide) ?_
      refine m_aload_n C dX0_ringFrom_34 rfl rfl ?_
      refine g_16_2 C q1_151 dX0_ringFrom_35 ?_
      refine m_eqs (w := (gV σ 16 0 2)) (show gV τ101 16 0 2 = (gV σ 16 0 2) from gV_put eτ101 rfl) ?_
      have q105 := b100
      have q106 := kt_0
      refine m_copy (t0 := 18) (n0 := 5) (t1 := 19) (n1 := 5) (st := []) C (by decide) (by decide) rfl (by decide) (by decide) (fun _ => rfl) ⟨by omega, by omega, by omega, by omega, by omega⟩ q3_234 q2_30 q2_29 q1_8 ⟨by decide, by decide +kernel⟩ dX0_ringFrom_38 ?_
      refine m_tops (fun τ107 eτ107 => ?_)
      have i108 : Inv τ107 := eτ107 ▸ Inv.putRow i102 (by decide) (fun _ => rfl)
      have f109 : Fr MS_X0_ringB_3 AS_X0_ringB_3 σ τ107 := eτ107 ▸ Fr.putRow (f103) (by decide)
      exact m_vret C hr hlk (by decide) (by decide) dX0_ringFrom_41 ⟨rfl, i108, f109, ⟨by rw [bleaf (by omega) (by rw [bcost_of hst.1]; have q := hac.1; omega), bcost_of hst.1]; exact ACC.leaf hor eτ101 eτ107 (by decide) (by decide) (by omega) (by omega) rfl, fun i _ => by rw [eτ107, gV_sR (Or.inl (by decide)), gV_putn eτ101 (Or.inl (by decide))]⟩⟩
  · have f110 : (gV σ 16 0 4).toInt ≤ a4.toInt := by
      have q : _ := c93
      simp only [ti_nle, ti_nlt, ti_le, ti_lt, ti_eq, ti_ne, Classical.not_not] at q
      omega
    have b111 : IV (gV σ 16 0 4) (-2147483648) 40 := ⟨by have q1 := (iv_any (gV σ 16 0 4)); have q2 := ha4; omega, by have q1 := (iv_any (gV σ 16 0 4)); have q2 := ha4; omega⟩
    exact m_vret C hr hlk (by decide) (by decide) dX0_ringFrom_9 ⟨rfl, hI, Fr.rf, ⟨by rw [bfold_cut ν bn _ pr acc (by rw [bcost_of hst.1]; have q := hac.1; omega)]; exact hac, fun _ _ => rfl⟩⟩

abbrev MS_X0_ringB_4 : List (Nat × Nat) := [(16, 4)]
abbrev AS_X0_ringB_4 : List Nat := [18, 19]
set_option maxHeartbeats 4000000 in
set_option maxRecDepth 100000 in
theorem c_X0_ringB_4 (l : Launch) (G : Gt) (σ : Sg) (bn : Nat) (ν : Nat → Int) (pr : List Nat) (acc : Int × List Nat) (a1 : Int32) (a2 : Int32) (a3 : Int32) (a4 : Int32) (hI : Inv σ) (ha1 : IV a1 1 1) (ha3 : IV a3 (-20) 20) (ha4 : IV a4 0 20) (hrn : RNG σ bn ν) (hν : ∀ b, 0 ≤ ν b ∧ ν b ≤ 20) (hac : ACC σ bn acc) (hor : ORD σ pr) (hrb : RBT a2 pr) (hst : bst ν 0 0 0 pr = (a3.toInt, a4.toInt) ∧ pr.length = 1 ∧ pr.length ≤ bn) : Mc l G yX0_ringFrom cX0_ringFrom 8 none 5 168 0 0 [.ref (G.1 16 0), .int a1, .int a2, .int a3, .int a4] σ (PV fun τ => Inv τ ∧ Fr MS_X0_ringB_4 AS_X0_ringB_4 σ τ ∧ (ACC τ bn ((bperm bn (bn - pr.length) pr).foldl (bupd ν) acc) ∧ ∀ i, i < pr.length → gV τ 18 0 i = gV σ 18 0 i)) := by
  refine Mc.of (L0 := [some (.ref (G.1 16 0)), some (.int a1), some (.int a2), some (.int a3), some (.int a4), none, none, none]) (by decide) (Nat.le_of_ble_eq_true rfl) rfl ?_
  intro p e s m args below meth c C hr hlk
  have C : Cx p s m args c cX0_ringFrom 8 "LeanTower$Bells" := C
  have k0 : (0 : Int32).toInt = 0 := by decide
  have k1 : (1 : Int32).toInt = 1 := by decide
  have J45 : ∀ (n : Nat) (τ : Sg) (y5 : Int32), Inv τ → Fr MS_X0_ringB_4 AS_X0_ringB_4 σ τ → IV a1 1 1 → IV a2 (-2147483648) 2147483647 → IV a3 (-20) 20 → IV a4 0 20 → IV y5 0 5 → (RNG τ bn ν) → ((1 < bn ∧ y5.toInt ≤ (bn : Int))) → (ACC τ bn ((bpart bn (bn - pr.length - 1) pr y5.toInt.toNat).foldl (bupd ν) acc)) → (∀ i, i < pr.length → gV τ 18 0 i = gV σ 18 0 i) → (5 - y5.toInt).toNat < n → MW p l e { frames := 5, cells := 0, slots := 0, locals := 168 } s m args below meth c (MQ below (QP G (PV fun τ => Inv τ ∧ Fr MS_X0_ringB_4 AS_X0_ringB_4 σ τ ∧ (ACC τ bn ((bperm bn (bn - pr.length) pr).foldl (bupd ν) acc) ∧ ∀ i, i < pr.length → gV τ 18 0 i = gV σ 18 0 i))) args s 0 0 (aG G)) 8 G 0 0 45 [some (.ref (G.1 16 0)), some (.int a1), some (.int a2), some (.int a3), some (.int a4), some (.int y5), none, none] [] τ := by
    intro n
    induction n with
    | zero => intro τ y5 iτ fτ b_a1 b_a2 b_a3 b_a4 b_y5 v_RN n1 nA nO hm; exact absurd hm (Nat.not_lt_zero _)
    | succ n ih45 =>
      intro τ y5 iτ fτ b_a1 b_a2 b_a3 b_a4 b_y5 v_RN n1 nA nO hm45
      have u2 : IV (gV τ 16 0 2) 0 5 := iτ.1 16 0 2
      have q3 : (gV τ 16 0 2).toInt = (bn : Int) := v_RN.1
      have q4 := hrn.2.1
      refine m_iload C dX0_ringFrom_45 rfl ?_
      refine m_aload_n C dX0_ringFrom_47 rfl rfl ?_
      refine g_16_2 C q1_151 dX0_ringFrom_48 ?_
      refine m_eqs (w := (gV τ 16 0 2)) rfl ?_
      refine m_icmp_ge (tgt := 135) C dX0_ringFrom_51 (by decide) (fun c5 => ?_) (fun c5 => ?_)
      · have f6 : (gV τ 16 0 2).toInt ≤ y5.toInt := by
          have q : _ := c5
          simp only [ti_nle, ti_nlt, ti_le, ti_lt, ti_eq, ti_ne, Classical.not_not] at q
          omega
        have nA_ : (bn : Int) ≤ y5.toInt → ACC τ bn ((bpart bn (bn - pr.length - 1) pr bn).foldl (bupd ν) acc) := fun g => by rw [show bn = y5.toInt.toNat by omega]; rw [show bn = y5.toInt.toNat by omega] at nA; exact nA
        exact m_vret C hr hlk (by decide) (by decide) dX0_ringFrom_135 ⟨rfl, iτ, fτ, ⟨bwhole (by omega) (nA_ (by omega)), nO⟩⟩
      · have f7 : y5.toInt < (gV τ 16 0 2).toInt := by
          have q : _ := c5
          simp only [ti_nle, ti_nlt, ti_le, ti_lt, ti_eq, ti_ne, Classical.not_not] at q
          omega
        have b8 : IV y5 0 4 := ⟨by have q1 := b_y5; have q2 := u2; omega, by have q1 := b_y5; have q2 := u2; omega⟩
        have b9 : IV (gV τ 16 0 2) 1 5 := ⟨by have q1 := b_y5; have q2 := u2; omega, by have q1 := b_y5; have q2 := u2; omega⟩
        refine m_iload_n C dX0_ringFrom_54 rfl rfl ?_
        refine m_iload C dX0_ringFrom_55 rfl ?_
        refine m_ishr C dX0_ringFrom_57 ?_
        refine m_topi (fun x10 ex10 => ?_)
        refine m_iconst (v := 1) C dX0_ringFrom_58 (by decide) ?_
        refine m_iand C dX0_ringFrom_59 ?_
        refine m_topi (fun x11 ex11 => ?_)
        have b12 : IV x11 0 1 := by rw [ex11]; exact iv_and_r kc_1 (by decide)
        have q14 := hrb.2 y5.toInt.toNat (by omega)
        have q13 : x11.toInt = (bt a2.toInt.toNat y5.toInt.toNat : Int) := bit_i ex11 ex10 ⟨hrb.1.1, by have q := hrb.1.2; omega⟩ (iv_wk b8 (by decide))
        have q15 : bt a2.toInt.toNat y5.toInt.toNat < 2 := Nat.mod_lt _ (by decide)
        refine m_if_ne (tgt := 129) C dX0_ringFrom_60 (by decide) (fun c16 => ?_) (fun c16 => ?_)
        · have f17 : x11.toInt ≠ 0 := by
            have q : _ := c16
            simp only [ti_nle, ti_nlt, ti_le, ti_lt, ti_eq, ti_ne, Classical.not_not, kt_0] at q
            omega
          have b18 : IV x11 1 1 := ⟨by have q1 := b12; have q2 := kc_0; omega, by have q1 := b12; have q2 := kc_0; omega⟩
          obtain ⟨x19, ex19⟩ : ∃ y : Int32, y = y5 + 1 := ⟨_, rfl⟩
          have tx19 : x19.toInt = y5.toInt + 1 := by rw [ex19, ti_addv b8 kc_1 (by decide), kt_1]
          have b20 : IV x19 1 5 := by rw [ex19]; exact iv_add b8 kc_1 (by decide)
          refine m_iinc (v := x19) (L1 := [some (.ref (G.1 16 0)), some (.int a1), some (.int a2), some (.int a3), some (.int a4), some (.int x19), none, none]) C dX0_ringFrom_129 rfl (by rw [ex19]; rfl) (by decide) rfl rfl ?_
          refine m_goto (tgt := 45) C dX0_ringFrom_132 (by decide) ?_
          exact ih45 τ x19 iτ fτ b_a1 b_a2 b_a3 b_a4 (iv_wk b20 (by decide)) v_RN (by omega) (by rw [show x19.toInt.toNat = y5.toInt.toNat + 1 by omega, bpart_in (q14.mp (by omega))]; exact nA) nO (by have q := hm45; omega)
        · have f21 : x11.toInt = 0 := by
            have q : _ := c16
            simp only [ti_nle, ti_nlt, ti_le, ti_lt, ti_eq, ti_ne, Classical.not_not, kt_0] at q
            omega
          have b22 : IV x11 0 0 := ⟨by have q1 := b12; have q2 := kc_0; omega, by have q1 := b12; have q2 := kc_0; omega⟩
          refine m_aload_n C dX0_ringFrom_63 rfl rfl ?_
          refine g_16_1 C q1_150 dX0_ringFrom_64 ?_
          refine m_iload_n C dX0_ringFrom_67 rfl rfl ?_
          refine m_iload C dX0_ringFrom_68 rfl ?_
          refine as_18 C b_a1 (by decide) rfl dX0_ringFrom_70 ?_
          refine m_tops (fun τ23 eτ23 => ?_)
          have i24 : Inv τ23 := eτ23 ▸ Inv.putF iτ (by decide) rfl
          have f25 : Fr MS_X0_ringB_4 AS_X0_ringB_4 σ τ23 := eτ23 ▸ Fr.put (fτ) (Or.inr (by decide))
          have v26 : RNG τ23 bn ν := RNG.put_ v_RN eτ23 (Or.inl (by decide))
          refine m_iload_n C dX0_ringFrom_71 rfl rfl ?_
          refine m_iconst (v := 2) C dX0_ringFrom_72 (by decide) ?_
          refine m_irem C dX0_ringFrom_73 (iv_nz kc_2 (by decide)) ?_
          refine m_topi (fun x27 ex27 => ?_)
          have b28 : IV x27 0 1 := by rw [ex27]; exact iv_rem b_a1 kc_2 (by decide)
          have tx27 : x27.toInt = a1.toInt % 2 := by rw [ex27]; exact ti_rem b_a1 kc_2 (by decide)
          refine m_if_ne (tgt := 89) C dX0_ringFrom_74 (by decide) (fun c29 => ?_) (fun c29 => ?_)
          · have f30 : x27.toInt ≠ 0 := by
              have q : _ := c29
              simp only [ti_nle, ti_nlt, ti_le, ti_lt, ti_eq, ti_ne, Classical.not_not, kt_0] at q
              omega
            have b31 : IV x27 1 1 := ⟨by have q1 := b28; have q2 := kc_0; omega, by have q1 := b28; have q2 := kc_0; omega⟩
            refine m_iload_n C dX0_ringFrom_89 rfl rfl ?_
            refine m_aload_n C dX0_ringFrom_90 rfl rfl ?_
            refine g_16_0 C q1_149 dX0_ringFrom_91 ?_
            refine m_iload C dX0_ringFrom_94 rfl ?_
            refine al_17 C b8 (by decide) rfl dX0_ringFrom_96 ?_
            refine m_topi (fun x32 ex32 => ?_)
            have q33 : x32.toInt = ν (y5.toInt.toNat) := by rw [← v26.2.2 (y5.toInt.toNat) (by omega), show gV τ23 17 0 (y5.toInt.toNat) = x32 from ex32.symm]
            have q35 := hν (y5.toInt.toNat)
            have b34 : IV x32 0 20 := ⟨by omega, by omega⟩
            refine m_isub C dX0_ringFrom_97 ?_
            refine m_topi (fun x36 ex36 => ?_)
            have tx36 : x36.toInt = a3.toInt - x32.toInt := by rw [ex36, ti_subv b_a3 b34 (by decide)]
            have b37 : IV x36 (-40) 20 := by rw [ex36]; exact iv_sub b_a3 b34 (by decide)
            refine m_istore (L1 := [some (.ref (G.1 16 0)), some (.int a1), some (.int a2), some (.int a3), some (.int a4), some (.int y5), some (.int x36), none]) C dX0_ringFrom_98 (by decide) rfl rfl ?_
            refine m_iload C dX0_ringFrom_100 rfl ?_
            refine m_iload C dX0_ringFrom_102 rfl ?_
            refine m_abs (st := [.int a4]) C q3_235 q3_66 q1_19 q3_67 ⟨by decide, Nat.le_of_ble_eq_true rfl⟩ (by decide) dX0_ringFrom_104 (fun x38 ex38 => ?_)
            have tx38 : x38.toInt = max x36.toInt (-x36.toInt) := ti_absv ex38 b37 (by decide)
            have b39 : IV x38 0 40 := ⟨by have q := b37; omega, by have q := b37; omega⟩
            refine m_max (st := []) C q3_236 q3_92 q1_19 q3_93 ⟨by decide, Nat.le_of_ble_eq_true rfl⟩ (by decide) dX0_ringFrom_107 (fun x40 ex40 => ?_)
            have tx40 : x40.toInt = max (a4.toInt) (x38.toInt) := by rw [ti_max ex40]
            have b41 : IV x40 0 40 := ⟨by have q1 := b_a4; have q2 := b39; omega, by have q1 := b_a4; have q2 := b39; omega⟩
            refine m_istore (L1 := [some (.ref (G.1 16 0)), some (.int a1), some (.int a2), some (.int a3), some (.int a4), some (.int y5), some (.int x36), some (.int x40)]) C dX0_ringFrom_110 (by decide) rfl rfl ?_
            refine m_aload_n C dX0_ringFrom_112 rfl rfl ?_
            refine m_iload_n C dX0_ringFrom_113 rfl rfl ?_
            refine m_iconst (v := 1) C dX0_ringFrom_114 (by decide) ?_
            refine m_iadd C dX0_ringFrom_115 ?_
            refine m_topi (fun x42 ex42 => ?_)
            have tx42 : x42.toInt = a1.toInt + 1 := by rw [ex42, ti_addv b_a1 kc_1 (by decide), kt_1]
            have b43 : IV x42 2 2 := by rw [ex42]; exact iv_add b_a1 kc_1 (by decide)
            refine m_iload_n C dX0_ringFrom_116 rfl rfl ?_
            refine m_iconst (v := 1) C dX0_ringFrom_117 (by decide) ?_
            refine m_iload C dX0_ringFrom_118 rfl ?_
            refine m_ishl C dX0_ringFrom_120 ?_
            refine m_topi (fun x44 ex44 => ?_)
            have b45 : IV x44 1 16 := by rw [ex44]; exact iv_shl1 b8 (by decide)
            refine m_ior C dX0_ringFrom_121 ?_
            refine m_topi (fun x46 ex46 => ?_)
            refine m_iload C dX0_ringFrom_122 rfl ?_
            refine m_iload C dX0_ringFrom_124 rfl ?_
            have q47 : (gV τ23 16 0 2).toInt = (gV τ 16 0 2).toInt := congrArg Int32.toInt (show (gV τ23 16 0 2) = (gV τ 16 0 2) from (show gV τ23 16 0 2 = (gV τ 16 0 2) from gV_put eτ23 rfl))
            have q48 : (gV τ23 16 0 4).toInt = (gV τ 16 0 4).toInt := congrArg Int32.toInt (show (gV τ23 16 0 4) = (gV τ 16 0 4) from (show gV τ23 16 0 4 = (gV τ 16 0 4) from gV_put eτ23 rfl))
            refine m_callV (n := 4) (ci := 0) (st := []) C (c_X0_ringB_3 l G τ23 bn ν (pr ++ [y5.toInt.toNat]) ((bpart bn (bn - pr.length - 1) pr y5.toInt.toNat).foldl (bupd ν) acc) (x42) (x46) (x36) (x40) i24 b43 (iv_wk b37 (by decide)) b41 v26 hν (ACC.same nA (gV_putn eτ23 (Or.inl (by decide))) (fun i => gV_putn eτ23 (Or.inl (by decide)))) (ORD.more (hor.same nO) eτ23 (by omega) (by omega)) (RBT.more hrb ex46 ex44 (iv_wk b8 (by decide))) ⟨by rw [bst_one hst.1 hst.2.1, if_neg (by omega)]; exact pr2 (by omega) (by omega), by rw [List.length_append, List.length_singleton, hst.2.1], by rw [List.length_append, List.length_singleton]; omega⟩) (by decide) (by decide) rfl rfl rfl q3_233 q3_230 q3_232 q0_24 q1_5 (by decide +kernel) rfl (by decide) (by decide) rfl (Nat.le_of_ble_eq_true rfl) dX0_ringFrom_126 ?_
            rintro _ τ49 ⟨rfl, i50, f51, h55⟩
            have g54 : Fr MS_X0_ringB_4 AS_X0_ringB_4 σ τ49 := Fr.call (f25) f51 (by decide)
            have v56 : RNG τ49 bn ν := v26.fr f51 (by decide) (by decide) (by simp) (by decide)
            have q57 : (gV τ49 16 0 2).toInt = (gV τ 16 0 2).toInt := congrArg Int32.toInt (show (gV τ49 16 0 2) = (gV τ 16 0 2) from (show gV τ49 16 0 2 = (gV τ 16 0 2) from (f51.1 16 0 (2) (by decide) (by decide)).trans (show gV τ23 16 0 2 = (gV τ 16 0 2) from gV_put eτ23 rfl)))
            show MW p l e _ s m args below meth c _ 8 G 0 0 129 [some (.ref (G.1 16 0)), some (.int a1), some (.int a2), some (.int a3), some (.int a4), some (.int y5), some (.int x36), some (.int x40)] [] τ49
            obtain ⟨x58, ex58⟩ : ∃ y : Int32, y = y5 + 1 := ⟨_, rfl⟩
            have tx58 : x58.toInt = y5.toInt + 1 := by rw [ex58, ti_addv b8 kc_1 (by decide), kt_1]
            have b59 : IV x58 1 5 := by rw [ex58]; exact iv_add b8 kc_1 (by decide)
            refine m_iinc (v := x58) (L1 := [some (.ref (G.1 16 0)), some (.int a1), some (.int a2), some (.int a3), some (.int a4), some (.int x58), some (.int x36), some (.int x40)]) C dX0_ringFrom_129 rfl (by rw [ex58]; rfl) (by decide) rfl rfl ?_
            refine m_goto (tgt := 45) C dX0_ringFrom_132 (by decide) ?_
            refine m_sub (L1 := [some (.ref (G.1 16 0)), some (.int a1), some (.int a2), some (.int a3), some (.int a4), some (.int x58), none, none]) ⟨rfl, ⟨rfl, ⟨rfl, ⟨rfl, ⟨rfl, ⟨rfl, trivial⟩⟩⟩⟩⟩⟩ ?_
            exact ih45 τ49 x58 i50 g54 b_a1 b_a2 b_a3 b_a4 (iv_wk b59 (by decide)) v56 (by omega) (by rw [show x58.toInt.toNat = y5.toInt.toNat + 1 by omega, bpart_out (fun g => by have q := q14.mpr g; omega), List.foldl_append]; exact bstep h55.1) (fun i hi => (h55.2 i (by rw [List.length_append]; omega)).trans ((gV_putn eτ23 (Or.inr (Or.inr (by omega)))).trans (nO i hi))) (by have q := hm45; omega)
          · have f60 : x27.toInt = 0 := by
              have q : _ := c29
              simp only [ti_nle, ti_nlt, ti_le, ti_lt, ti_eq, ti_ne, Classical.not_not, kt_0] at q
              omega
            have b61 : IV x27 0 0 := ⟨by have q1 := b28; have q2 := kc_0; omega, by have q1 := b28; have q2 := kc_0; omega⟩
            refine m_iload_n C dX0_ringFrom_77 rfl rfl ?_
            refine m_aload_n C dX0_ringFrom_78 rfl rfl ?_
            refine g_16_0 C q1_149 dX0_ringFrom_79 ?_
            refine m_iload C dX0_ringFrom_82 rfl ?_
            refine al_17 C b8 (by decide) rfl dX0_ringFrom_84 ?_
            refine m_topi (fun x62 ex62 => ?_)
            have q63 : x62.toInt = ν (y5.toInt.toNat) := by rw [← v26.2.2 (y5.toInt.toNat) (by omega), show gV τ23 17 0 (y5.toInt.toNat) = x62 from ex62.symm]
            have q65 := hν (y5.toInt.toNat)
            have b64 : IV x62 0 20 := ⟨by omega, by omega⟩
            refine m_iadd C dX0_ringFrom_85 ?_
            refine m_topi (fun x66 ex66 => ?_)
            have tx66 : x66.toInt = a3.toInt + x62.toInt := by rw [ex66, ti_addv b_a3 b64 (by decide)]
            have b67 : IV x66 (-20) 40 := by rw [ex66]; exact iv_add b_a3 b64 (by decide)
            refine m_goto (tgt := 98) C dX0_ringFrom_86 (by decide) ?_
            refine m_istore (L1 := [some (.ref (G.1 16 0)), some (.int a1), some (.int a2), some (.int a3), some (.int a4), some (.int y5), some (.int x66), none]) C dX0_ringFrom_98 (by decide) rfl rfl ?_
            refine m_iload C dX0_ringFrom_100 rfl ?_
            refine m_iload C dX0_ringFrom_102 rfl ?_
            refine m_abs (st := [.int a4]) C q3_235 q3_66 q1_19 q3_67 ⟨by decide, Nat.le_of_ble_eq_true rfl⟩ (by decide) dX0_ringFrom_104 (fun x68 ex68 => ?_)
            have tx68 : x68.toInt = max x66.toInt (-x66.toInt) := ti_absv ex68 b67 (by decide)
            have b69 : IV x68 0 40 := ⟨by have q := b67; omega, by have q := b67; omega⟩
            refine m_max (st := []) C q3_236 q3_92 q1_19 q3_93 ⟨by decide, Nat.le_of_ble_eq_true rfl⟩ (by decide) dX0_ringFrom_107 (fun x70 ex70 => ?_)
            have tx70 : x70.toInt = max (a4.toInt) (x68.toInt) := by rw [ti_max ex70]
            have b71 : IV x70 0 40 := ⟨by have q1 := b_a4; have q2 := b69; omega, by have q1 := b_a4; have q2 := b69; omega⟩
            refine m_istore (L1 := [some (.ref (G.1 16 0)), some (.int a1), some (.int a2), some (.int a3), some (.int a4), some (.int y5), some (.int x66), some (.int x70)]) C dX0_ringFrom_110 (by decide) rfl rfl ?_
            refine m_aload_n C dX0_ringFrom_112 rfl rfl ?_
            refine m_iload_n C dX0_ringFrom_113 rfl rfl ?_
            refine m_iconst (v := 1) C dX0_ringFrom_114 (by decide) ?_
            refine m_iadd C dX0_ringFrom_115 ?_
            refine m_topi (fun x72 ex72 => ?_)
            have tx72 : x72.toInt = a1.toInt + 1 := by rw [ex72, ti_addv b_a1 kc_1 (by decide), kt_1]
            have b73 : IV x72 2 2 := by rw [ex72]; exact iv_add b_a1 kc_1 (by decide)
            refine m_iload_n C dX0_ringFrom_116 rfl rfl ?_
            refine m_iconst (v := 1) C dX0_ringFrom_117 (by decide) ?_
            refine m_iload C dX0_ringFrom_118 rfl ?_
            refine m_ishl C dX0_ringFrom_120 ?_
            refine m_topi (fun x74 ex74 => ?_)
            have b75 : IV x74 1 16 := by rw [ex74]; exact iv_shl1 b8 (by decide)
            refine m_ior C dX0_ringFrom_121 ?_
            refine m_topi (fun x76 ex76 => ?_)
            refine m_iload C dX0_ringFrom_122 rfl ?_
            refine m_iload C dX0_ringFrom_124 rfl ?_
            have q77 : (gV τ23 16 0 2).toInt = (gV τ 16 0 2).toInt := congrArg Int32.toInt (show (gV τ23 16 0 2) = (gV τ 16 0 2) from (show gV τ23 16 0 2 = (gV τ 16 0 2) from gV_put eτ23 rfl))
            have q78 : (gV τ23 16 0 4).toInt = (gV τ 16 0 4).toInt := congrArg Int32.toInt (show (gV τ23 16 0 4) = (gV τ 16 0 4) from (show gV τ23 16 0 4 = (gV τ 16 0 4) from gV_put eτ23 rfl))
            refine m_callV (n := 4) (ci := 0) (st := []) C (c_X0_ringB_3 l G τ23 bn ν (pr ++ [y5.toInt.toNat]) ((bpart bn (bn - pr.length - 1) pr y5.toInt.toNat).foldl (bupd ν) acc) (x72) (x76) (x66) (x70) i24 b73 (iv_wk b67 (by decide)) b71 v26 hν (ACC.same nA (gV_putn eτ23 (Or.inl (by decide))) (fun i => gV_putn eτ23 (Or.inl (by decide)))) (ORD.more (hor.same nO) eτ23 (by omega) (by omega)) (RBT.more hrb ex76 ex74 (iv_wk b8 (by decide))) ⟨by rw [bst_one hst.1 hst.2.1, if_pos (by omega)]; exact pr2 (by omega) (by omega), by rw [List.length_append, List.length_singleton, hst.2.1], by rw [List.length_append, List.length_singleton]; omega⟩) (by decide) (by decide) rfl rfl rfl q3_233 q3_230 q3_232 q0_24 q1_5 (by decide +kernel) rfl (by decide) (by decide) rfl (Nat.le_of_ble_eq_true rfl) dX0_ringFrom_126 ?_
            rintro _ τ79 ⟨rfl, i80, f81, h85⟩
            have g84 : Fr MS_X0_ringB_4 AS_X0_ringB_4 σ τ79 := Fr.call (f25) f81 (by decide)
            have v86 : RNG τ79 bn ν := v26.fr f81 (by decide) (by decide) (by simp) (by decide)
            have q87 : (gV τ79 16 0 2).toInt = (gV τ 16 0 2).toInt := congrArg Int32.toInt (show (gV τ79 16 0 2) = (gV τ 16 0 2) from (show gV τ79 16 0 2 = (gV τ 16 0 2) from (f81.1 16 0 (2) (by decide) (by decide)).trans (show gV τ23 16 0 2 = (gV τ 16 0 2) from gV_put eτ23 rfl)))
            show MW p l e _ s m args below meth c _ 8 G 0 0 129 [some (.ref (G.1 16 0)), some (.int a1), some (.int a2), some (.int a3), some (.int a4), some (.int y5), some (.int x66), some (.int x70)] [] τ79
            obtain ⟨x88, ex88⟩ : ∃ y : Int32, y = y5 + 1 := ⟨_, rfl⟩
            have tx88 : x88.toInt = y5.toInt + 1 := by rw [ex88, ti_addv b8 kc_1 (by decide), kt_1]
            have b89 : IV x88 1 5 := by rw [ex88]; exact iv_add b8 kc_1 (by decide)
            refine m_iinc (v := x88) (L1 := [some (.ref (G.1 16 0)), some (.int a1), some (.int a2), some (.int a3), some (.int a4), some (.int x88), some (.int x66), some (.int x70)]) C dX0_ringFrom_129 rfl (by rw [ex88]; rfl) (by decide) rfl rfl ?_
            refine m_goto (tgt := 45) C dX0_ringFrom_132 (by decide) ?_
            refine m_sub (L1 := [some (.ref (G.1 16 0)), some (.int a1), some (.int a2), some (.int a3), some (.int a4), some (.int x88), none, none]) ⟨rfl, ⟨rfl, ⟨rfl, ⟨rfl, ⟨rfl, ⟨rfl, trivial⟩⟩⟩⟩⟩⟩ ?_
            exact ih45 τ79 x88 i80 g84 b_a1 b_a2 b_a3 b_a4 (iv_wk b89 (by decide)) v86 (by omega) (by rw [show x88.toInt.toNat = y5.toInt.toNat + 1 by omega, bpart_out (fun g => by have q := q14.mpr g; omega), List.foldl_append]; exact bstep h85.1) (fun i hi => (h85.2 i (by rw [List.length_append]; omega)).trans ((gV_putn eτ23 (Or.inr (Or.inr (by omega)))).trans (nO i hi))) (by have q := hm45; omega)
  have u90 : IV (gV σ 16 0 2) 0 5 := hI.1 16 0 2
  have q91 : (gV σ 16 0 2).toInt = (bn : Int) := hrn.1
  have q92 := hrn.2.1
  refine m_iload C dX0_ringFrom_0 rfl ?_
  refine m_aload_n C dX0_ringFrom_2 rfl rfl ?_
  refine g_16_4 C q1_154 dX0_ringFrom_3 ?_
  refine m_eqs (w := (gV σ 16 0 4)) rfl ?_
  refine m_icmp_lt (tgt := 10) C dX0_ringFrom_6 (by decide) (fun c93 => ?_) (fun c93 => ?_)
  · have f94 : a4.toInt < (gV σ 16 0 4).toInt := by
      have q : _ := c93
      simp only [ti_nle, ti_nlt, ti_le, ti_lt, ti_eq, ti_ne, Classical.not_not] at q
      omega
    have b95 : IV (gV σ 16 0 4) 1 2147483647 := ⟨by have q1 := ha4; have q2 := (iv_any (gV σ 16 0 4)); omega, by have q1 := ha4; have q2 := (iv_any (gV σ 16 0 4)); omega⟩
    refine m_iload_n C dX0_ringFrom_10 rfl rfl ?_
    refine m_aload_n C dX0_ringFrom_11 rfl rfl ?_
    refine g_16_2 C q1_151 dX0_ringFrom_12 ?_
    refine m_eqs (w := (gV σ 16 0 2)) rfl ?_
    refine m_icmp_lt (tgt := 42) C dX0_ringFrom_15 (by decide) (fun c96 => ?_) (fun c96 => ?_)
    · have f97 : a1.toInt < (gV σ 16 0 2).toInt := by
        have q : _ := c96
        simp only [ti_nle, ti_nlt, ti_le, ti_lt, ti_eq, ti_ne, Classical.not_not] at q
        omega
      have b98 : IV (gV σ 16 0 2) 2 5 := ⟨by have q1 := ha1; have q2 := u90; omega, by have q1 := ha1; have q2 := u90; omega⟩
      refine m_iconst (v := 0) C dX0_ringFrom_42 (by decide) ?_
      refine m_istore (L1 := [some (.ref (G.1 16 0)), some (.int a1), some (.int a2), some (.int a3), some (.int a4), some (.int 0), none, none]) C dX0_ringFrom_43 (by decide) rfl rfl ?_
      exact J45 ((5 - (0 : Int32).toInt).toNat + 1) σ 0 hI Fr.rf ha1 (iv_any a2) ha3 ha4 (iv_wk kc_0 (by decide)) hrn (by omega) (by rw [kn_0, bpart_zero]; exact hac) (fun _ _ => rfl) (Nat.lt_succ_self _)
    · have f99 : (gV σ 16 0 2).toInt ≤ a1.toInt := by
        have q : _ := c96
        simp only [ti_nle, ti_nlt, ti_le, ti_lt, ti_eq, ti_ne, Classical.not_not] at q
        omega
      have b100 : IV (gV σ 16 0 2) 0 1 := ⟨by have q1 := u90; have q2 := ha1; omega, by have q1 := u90; have q2 := ha1; omega⟩
      refine m_aload_n C dX0_ringFrom_18 rfl rfl ?_
      refine m_iload C dX0_ringFrom_19 rfl ?_
      refine p_16_4 C q1_154 dX0_ringFrom_21 ?_
      refine m_tops (fun τ101 eτ101 => ?_)
      have i102 : Inv τ101 := eτ101 ▸ Inv.putF hI (by decide) rfl
      have f103 : Fr MS_X0_ringB_4 AS_X0_ringB_4 σ τ101 := eτ101 ▸ Fr.put (Fr.rf) (Or.inl (by decide))
      have v104 : RNG τ101 bn ν := RNG.put_ hrn eτ101 (Or.inr (by decide))
      refine m_aload_n C dX0_ringFrom_24 rfl rfl ?_
      refine g_16_1 C q1_150 dX0_ringFrom_25 ?_
      refine m_iconst (v := 0) C dX0_ringFrom_28 (by decide) ?_
      refine m_aload_n C dX0_ringFrom_29 rfl rfl ?_
      refine g_16_3 C q1_152 dX0_ringFrom_30 ?_
      refine m_iconst (v := 0) C dX0_ringFrom_33 (by decide) ?_
      refine m_aload_n C dX0_ringFrom_34 rfl rfl ?_
      refine g_16_2 C q1_151 dX0_ringFrom_35 ?_
      refine m_eqs (w := (gV σ 16 0 2)) (show gV τ101 16 0 2 = (gV σ 16 0 2) from gV_put eτ101 rfl) ?_
      have q105 := b100
      have q106 := kt_0
      refine m_copy (t0 := 18) (n0 := 5) (t1 := 19) (n1 := 5) (st := []) C (by decide) (by decide) rfl (by decide) (by decide) (fun _ => rfl) ⟨by omega, by omega, by omega, by omega, by omega⟩ q3_234 q2_30 q2_29 q1_8 ⟨by decide, by decide +kernel⟩ dX0_ringFrom_38 ?_
      refine m_tops (fun τ107 eτ107 => ?_)
      have i108 : Inv τ107 := eτ107 ▸ Inv.putRow i102 (by decide) (fun _ => rfl)
      have f109 : Fr MS_X0_ringB_4 AS_X0_ringB_4 σ τ107 := eτ107 ▸ Fr.putRow (f103) (by decide)
      exact m_vret C hr hlk (by decide) (by decide) dX0_ringFrom_41 ⟨rfl, i108, f109, ⟨by rw [bleaf (by omega) (by rw [bcost_of hst.1]; have q := hac.1; omega), bcost_of hst.1]; exact ACC.leaf hor eτ101 eτ107 (by decide) (by decide) (by omega) (by omega) rfl, fun i _ => by rw [eτ107, gV_sR (Or.inl (by decide)), gV_putn eτ101 (Or.inl (by decide))]⟩⟩
  · have f110 : (gV σ 16 0 4).toInt ≤ a4.toInt := by
      have q : _ := c93
      simp only [ti_nle, ti_nlt, ti_le, ti_lt, ti_eq, ti_ne, Classical.not_not] at q
      omega
    have b111 : IV (gV σ 16 0 4) (-2147483648) 20 := ⟨by have q1 := (iv_any (gV σ 16 0 4)); have q2 := ha4; omega, by have q1 := (iv_any (gV σ 16 0 4)); have q2 := ha4; omega⟩
    exact m_vret C hr hlk (by decide) (by decide) dX0_ringFrom_9 ⟨rfl, hI, Fr.rf, ⟨by rw [bfold_cut ν bn _ pr acc (by rw [bcost_of hst.1]; have q := hac.1; omega)]; exact hac, fun _ _ => rfl⟩⟩

abbrev MS_X0_ringB_5 : List (Nat × Nat) := [(16, 4)]
abbrev AS_X0_ringB_5 : List Nat := [18, 19]
set_option maxHeartbeats 4000000 in
set_option maxRecDepth 100000 in
theorem c_X0_ringB_5 (l : Launch) (G : Gt) (σ : Sg) (bn : Nat) (ν : Nat → Int) (pr : List Nat) (acc : Int × List Nat) (a1 : Int32) (a2 : Int32) (a3 : Int32) (a4 : Int32) (hI : Inv σ) (ha1 : IV a1 0 0) (ha3 : IV a3 0 0) (ha4 : IV a4 0 0) (hrn : RNG σ bn ν) (hν : ∀ b, 0 ≤ ν b ∧ ν b ≤ 20) (hac : ACC σ bn acc) (hor : ORD σ pr) (hrb : RBT a2 pr) (hst : bst ν 0 0 0 pr = (a3.toInt, a4.toInt) ∧ pr.length = 0 ∧ pr.length ≤ bn) : Mc l G yX0_ringFrom cX0_ringFrom 8 none 6 195 0 0 [.ref (G.1 16 0), .int a1, .int a2, .int a3, .int a4] σ (PV fun τ => Inv τ ∧ Fr MS_X0_ringB_5 AS_X0_ringB_5 σ τ ∧ (ACC τ bn ((bperm bn (bn - pr.length) pr).foldl (bupd ν) acc) ∧ ∀ i, i < pr.length → gV τ 18 0 i = gV σ 18 0 i)) := by
  refine Mc.of (L0 := [some (.ref (G.1 16 0)), some (.int a1), some (.int a2), some (.int a3), some (.int a4), none, none, none]) (by decide) (Nat.le_of_ble_eq_true rfl) rfl ?_
  intro p e s m args below meth c C hr hlk
  have C : Cx p s m args c cX0_ringFrom 8 "LeanTower$Bells" := C
  have k0 : (0 : Int32).toInt = 0 := by decide
  have k1 : (1 : Int32).toInt = 1 := by decide
  have J45 : ∀ (n : Nat) (τ : Sg) (y5 : Int32), Inv τ → Fr MS_X0_ringB_5 AS_X0_ringB_5 σ τ → IV a1 0 0 → IV a2 (-2147483648) 2147483647 → IV a3 0 0 → IV a4 0 0 → IV y5 0 5 → (RNG τ bn ν) → ((0 < bn ∧ y5.toInt ≤ (bn : Int))) → (ACC τ bn ((bpart bn (bn - pr.length - 1) pr y5.toInt.toNat).foldl (bupd ν) acc)) → (∀ i, i < pr.length → gV τ 18 0 i = gV σ 18 0 i) → (5 - y5.toInt).toNat < n → MW p l e { frames := 6, cells := 0, slots := 0, locals := 195 } s m args below meth c (MQ below (QP G (PV fun τ => Inv τ ∧ Fr MS_X0_ringB_5 AS_X0_ringB_5 σ τ ∧ (ACC τ bn ((bperm bn (bn - pr.length) pr).foldl (bupd ν) acc) ∧ ∀ i, i < pr.length → gV τ 18 0 i = gV σ 18 0 i))) args s 0 0 (aG G)) 8 G 0 0 45 [some (.ref (G.1 16 0)), some (.int a1), some (.int a2), some (.int a3), some (.int a4), some (.int y5), none, none] [] τ := by
    intro n
    induction n with
    | zero => intro τ y5 iτ fτ b_a1 b_a2 b_a3 b_a4 b_y5 v_RN n1 nA nO hm; exact absurd hm (Nat.not_lt_zero _)
    | succ n ih45 =>
      intro τ y5 iτ fτ b_a1 b_a2 b_a3 b_a4 b_y5 v_RN n1 nA nO hm45
      have u2 : IV (gV τ 16 0 2) 0 5 := iτ.1 16 0 2
      have q3 : (gV τ 16 0 2).toInt = (bn : Int) := v_RN.1
      have q4 := hrn.2.1
      refine m_iload C dX0_ringFrom_45 rfl ?_
      refine m_aload_n C dX0_ringFrom_47 rfl rfl ?_
      refine g_16_2 C q1_151 dX0_ringFrom_48 ?_
      refine m_eqs (w := (gV τ 16 0 2)) rfl ?_
      refine m_icmp_ge (tgt := 135) C dX0_ringFrom_51 (by decide) (fun c5 => ?_) (fun c5 => ?_)
      · have f6 : (gV τ 16 0 2).toInt ≤ y5.toInt := by
          have q : _ := c5
          simp only [ti_nle, ti_nlt, ti_le, ti_lt, ti_eq, ti_ne, Classical.not_not] at q
          omega
        have nA_ : (bn : Int) ≤ y5.toInt → ACC τ bn ((bpart bn (bn - pr.length - 1) pr bn).foldl (bupd ν) acc) := fun g => by rw [show bn = y5.toInt.toNat by omega]; rw [show bn = y5.toInt.toNat by omega] at nA; exact nA
        exact m_vret C hr hlk (by decide) (by decide) dX0_ringFrom_135 ⟨rfl, iτ, fτ, ⟨bwhole (by omega) (nA_ (by omega)), nO⟩⟩
      · have f7 : y5.toInt < (gV τ 16 0 2).toInt := by
          have q : _ := c5
          simp only [ti_nle, ti_nlt, ti_le, ti_lt, ti_eq, ti_ne, Classical.not_not] at q
          omega
        have b8 : IV y5 0 4 := ⟨by have q1 := b_y5; have q2 := u2; omega, by have q1 := b_y5; have q2 := u2; omega⟩
        have b9 : IV (gV τ 16 0 2) 1 5 := ⟨by have q1 := b_y5; have q2 := u2; omega, by have q1 := b_y5; have q2 := u2; omega⟩
        refine m_iload_n C dX0_ringFrom_54 rfl rfl ?_
        refine m_iload C dX0_ringFrom_55 rfl ?_
        refine m_ishr C dX0_ringFrom_57 ?_
        refine m_topi (fun x10 ex10 => ?_)
        refine m_iconst (v := 1) C dX0_ringFrom_58 (by decide) ?_
        refine m_iand C dX0_ringFrom_59 ?_
        refine m_topi (fun x11 ex11 => ?_)
        have b12 : IV x11 0 1 := by rw [ex11]; exact iv_and_r kc_1 (by decide)
        have q14 := hrb.2 y5.toInt.toNat (by omega)
        have q13 : x11.toInt = (bt a2.toInt.toNat y5.toInt.toNat : Int) := bit_i ex11 ex10 ⟨hrb.1.1, by have q := hrb.1.2; omega⟩ (iv_wk b8 (by decide))
        have q15 : bt a2.toInt.toNat y5.toInt.toNat < 2 := Nat.mod_lt _ (by decide)
        refine m_if_ne (tgt := 129) C dX0_ringFrom_60 (by decide) (fun c16 => ?_) (fun c16 => ?_)
        · have f17 : x11.toInt ≠ 0 := by
            have q : _ := c16
            simp only [ti_nle, ti_nlt, ti_le, ti_lt, ti_eq, ti_ne, Classical.not_not, kt_0] at q
            omega
          have b18 : IV x11 1 1 := ⟨by have q1 := b12; have q2 := kc_0; omega, by have q1 := b12; have q2 := kc_0; omega⟩
          obtain ⟨x19, ex19⟩ : ∃ y : Int32, y = y5 + 1 := ⟨_, rfl⟩
          have tx19 : x19.toInt = y5.toInt + 1 := by rw [ex19, ti_addv b8 kc_1 (by decide), kt_1]
          have b20 : IV x19 1 5 := by rw [ex19]; exact iv_add b8 kc_1 (by decide)
          refine m_iinc (v := x19) (L1 := [some (.ref (G.1 16 0)), some (.int a1), some (.int a2), some (.int a3), some (.int a4), some (.int x19), none, none]) C dX0_ringFrom_129 rfl (by rw [ex19]; rfl) (by decide) rfl rfl ?_
          refine m_goto (tgt := 45) C dX0_ringFrom_132 (by decide) ?_
          exact ih45 τ x19 iτ fτ b_a1 b_a2 b_a3 b_a4 (iv_wk b20 (by decide)) v_RN (by omega) (by rw [show x19.toInt.toNat = y5.toInt.toNat + 1 by omega, bpart_in (q14.mp (by omega))]; exact nA) nO (by have q := hm45; omega)
        · have f21 : x11.toInt = 0 := by
            have q : _ := c16
            simp only [ti_nle, ti_nlt, ti_le, ti_lt, ti_eq, ti_ne, Classical.not_not, kt_0] at q
            omega
          have b22 : IV x11 0 0 := ⟨by have q1 := b12; have q2 := kc_0; omega, by have q1 := b12; have q2 := kc_0; omega⟩
          refine m_aload_n C dX0_ringFrom_63 rfl rfl ?_
          refine g_16_1 C q1_150 dX0_ringFrom_64 ?_
          refine m_iload_n C dX0_ringFrom_67 rfl rfl ?_
          refine m_iload C dX0_ringFrom_68 rfl ?_
          refine as_18 C b_a1 (by decide) rfl dX0_ringFrom_70 ?_
          refine m_tops (fun τ23 eτ23 => ?_)
          have i24 : Inv τ23 := eτ23 ▸ Inv.putF iτ (by decide) rfl
          have f25 : Fr MS_X0_ringB_5 AS_X0_ringB_5 σ τ23 := eτ23 ▸ Fr.put (fτ) (Or.inr (by decide))
          have v26 : RNG τ23 bn ν := RNG.put_ v_RN eτ23 (Or.inl (by decide))
          refine m_iload_n C dX0_ringFrom_71 rfl rfl ?_
          refine m_iconst (v := 2) C dX0_ringFrom_72 (by decide) ?_
          refine m_irem C dX0_ringFrom_73 (iv_nz kc_2 (by decide)) ?_
          refine m_topi (fun x27 ex27 => ?_)
          have b28 : IV x27 0 1 := by rw [ex27]; exact iv_rem b_a1 kc_2 (by decide)
          have tx27 : x27.toInt = a1.toInt % 2 := by rw [ex27]; exact ti_rem b_a1 kc_2 (by decide)
          refine m_if_ne (tgt := 89) C dX0_ringFrom_74 (by decide) (fun c29 => ?_) (fun c29 => ?_)
          · have f30 : x27.toInt ≠ 0 := by
              have q : _ := c29
              simp only [ti_nle, ti_nlt, ti_le, ti_lt, ti_eq, ti_ne, Classical.not_not, kt_0] at q
              omega
            have b31 : IV x27 1 1 := ⟨by have q1 := b28; have q2 := kc_0; omega, by have q1 := b28; have q2 := kc_0; omega⟩
            refine m_iload_n C dX0_ringFrom_89 rfl rfl ?_
            refine m_aload_n C dX0_ringFrom_90 rfl rfl ?_
            refine g_16_0 C q1_149 dX0_ringFrom_91 ?_
            refine m_iload C dX0_ringFrom_94 rfl ?_
            refine al_17 C b8 (by decide) rfl dX0_ringFrom_96 ?_
            refine m_topi (fun x32 ex32 => ?_)
            have q33 : x32.toInt = ν (y5.toInt.toNat) := by rw [← v26.2.2 (y5.toInt.toNat) (by omega), show gV τ23 17 0 (y5.toInt.toNat) = x32 from ex32.symm]
            have q35 := hν (y5.toInt.toNat)
            have b34 : IV x32 0 20 := ⟨by omega, by omega⟩
            refine m_isub C dX0_ringFrom_97 ?_
            refine m_topi (fun x36 ex36 => ?_)
            have tx36 : x36.toInt = a3.toInt - x32.toInt := by rw [ex36, ti_subv b_a3 b34 (by decide)]
            have b37 : IV x36 (-20) 0 := by rw [ex36]; exact iv_sub b_a3 b34 (by decide)
            refine m_istore (L1 := [some (.ref (G.1 16 0)), some (.int a1), some (.int a2), some (.int a3), some (.int a4), some (.int y5), some (.int x36), none]) C dX0_ringFrom_98 (by decide) rfl rfl ?_
            refine m_iload C dX0_ringFrom_100 rfl ?_
            refine m_iload C dX0_ringFrom_102 rfl ?_
            refine m_abs (st := [.int a4]) C q3_235 q3_66 q1_19 q3_67 ⟨by decide, Nat.le_of_ble_eq_true rfl⟩ (by decide) dX0_ringFrom_104 (fun x38 ex38 => ?_)
            have tx38 : x38.toInt = max x36.toInt (-x36.toInt) := ti_absv ex38 b37 (by decide)
            have b39 : IV x38 0 20 := ⟨by have q := b37; omega, by have q := b37; omega⟩
            refine m_max (st := []) C q3_236 q3_92 q1_19 q3_93 ⟨by decide, Nat.le_of_ble_eq_true rfl⟩ (by decide) dX0_ringFrom_107 (fun x40 ex40 => ?_)
            have tx40 : x40.toInt = max (a4.toInt) (x38.toInt) := by rw [ti_max ex40]
            have b41 : IV x40 0 20 := ⟨by have q1 := b_a4; have q2 := b39; omega, by have q1 := b_a4; have q2 := b39; omega⟩
            refine m_istore (L1 := [some (.ref (G.1 16 0)), some (.int a1), some (.int a2), some (.int a3), some (.int a4), some (.int y5), some (.int x36), some (.int x40)]) C dX0_ringFrom_110 (by decide) rfl rfl ?_
            refine m_aload_n C dX0_ringFrom_112 rfl rfl ?_
            refine m_iload_n C dX0_ringFrom_113 rfl rfl ?_
            refine m_iconst (v := 1) C dX0_ringFrom_114 (by decide) ?_
            refine m_iadd C dX0_ringFrom_115 ?_
            refine m_topi (fun x42 ex42 => ?_)
            have tx42 : x42.toInt = a1.toInt + 1 := by rw [ex42, ti_addv b_a1 kc_1 (by decide), kt_1]
            have b43 : IV x42 1 1 := by rw [ex42]; exact iv_add b_a1 kc_1 (by decide)
            refine m_iload_n C dX0_ringFrom_116 rfl rfl ?_
            refine m_iconst (v := 1) C dX0_ringFrom_117 (by decide) ?_
            refine m_iload C dX0_ringFrom_118 rfl ?_
            refine m_ishl C dX0_ringFrom_120 ?_
            refine m_topi (fun x44 ex44 => ?_)
            have b45 : IV x44 1 16 := by rw [ex44]; exact iv_shl1 b8 (by decide)
            refine m_ior C dX0_ringFrom_121 ?_
            refine m_topi (fun x46 ex46 => ?_)
            refine m_iload C dX0_ringFrom_122 rfl ?_
            refine m_iload C dX0_ringFrom_124 rfl ?_
            have q47 : (gV τ23 16 0 2).toInt = (gV τ 16 0 2).toInt := congrArg Int32.toInt (show (gV τ23 16 0 2) = (gV τ 16 0 2) from (show gV τ23 16 0 2 = (gV τ 16 0 2) from gV_put eτ23 rfl))
            have q48 : (gV τ23 16 0 4).toInt = (gV τ 16 0 4).toInt := congrArg Int32.toInt (show (gV τ23 16 0 4) = (gV τ 16 0 4) from (show gV τ23 16 0 4 = (gV τ 16 0 4) from gV_put eτ23 rfl))
            refine m_callV (n := 4) (ci := 0) (st := []) C (c_X0_ringB_4 l G τ23 bn ν (pr ++ [y5.toInt.toNat]) ((bpart bn (bn - pr.length - 1) pr y5.toInt.toNat).foldl (bupd ν) acc) (x42) (x46) (x36) (x40) i24 b43 (iv_wk b37 (by decide)) b41 v26 hν (ACC.same nA (gV_putn eτ23 (Or.inl (by decide))) (fun i => gV_putn eτ23 (Or.inl (by decide)))) (ORD.more (hor.same nO) eτ23 (by omega) (by omega)) (RBT.more hrb ex46 ex44 (iv_wk b8 (by decide))) ⟨by rw [bst_one hst.1 hst.2.1, if_neg (by omega)]; exact pr2 (by omega) (by omega), by rw [List.length_append, List.length_singleton, hst.2.1], by rw [List.length_append, List.length_singleton]; omega⟩) (by decide) (by decide) rfl rfl rfl q3_233 q3_230 q3_232 q0_24 q1_5 (by decide +kernel) rfl (by decide) (by decide) rfl (Nat.le_of_ble_eq_true rfl) dX0_ringFrom_126 ?_
            rintro _ τ49 ⟨rfl, i50, f51, h55⟩
            have g54 : Fr MS_X0_ringB_5 AS_X0_ringB_5 σ τ49 := Fr.call (f25) f51 (by decide)
            have v56 : RNG τ49 bn ν := v26.fr f51 (by decide) (by decide) (by simp) (by decide)
            have q57 : (gV τ49 16 0 2).toInt = (gV τ 16 0 2).toInt := congrArg Int32.toInt (show (gV τ49 16 0 2) = (gV τ 16 0 2) from (show gV τ49 16 0 2 = (gV τ 16 0 2) from (f51.1 16 0 (2) (by decide) (by decide)).trans (show gV τ23 16 0 2 = (gV τ 16 0 2) from gV_put eτ23 rfl)))
            show MW p l e _ s m args below meth c _ 8 G 0 0 129 [some (.ref (G.1 16 0)), some (.int a1), some (.int a2), some (.int a3), some (.int a4), some (.int y5), some (.int x36), some (.int x40)] [] τ49
            obtain ⟨x58, ex58⟩ : ∃ y : Int32, y = y5 + 1 := ⟨_, rfl⟩
            have tx58 : x58.toInt = y5.toInt + 1 := by rw [ex58, ti_addv b8 kc_1 (by decide), kt_1]
            have b59 : IV x58 1 5 := by rw [ex58]; exact iv_add b8 kc_1 (by decide)
            refine m_iinc (v := x58) (L1 := [some (.ref (G.1 16 0)), some (.int a1), some (.int a2), some (.int a3), some (.int a4), some (.int x58), some (.int x36), some (.int x40)]) C dX0_ringFrom_129 rfl (by rw [ex58]; rfl) (by decide) rfl rfl ?_
            refine m_goto (tgt := 45) C dX0_ringFrom_132 (by decide) ?_
            refine m_sub (L1 := [some (.ref (G.1 16 0)), some (.int a1), some (.int a2), some (.int a3), some (.int a4), some (.int x58), none, none]) ⟨rfl, ⟨rfl, ⟨rfl, ⟨rfl, ⟨rfl, ⟨rfl, trivial⟩⟩⟩⟩⟩⟩ ?_
            exact ih45 τ49 x58 i50 g54 b_a1 b_a2 b_a3 b_a4 (iv_wk b59 (by decide)) v56 (by omega) (by rw [show x58.toInt.toNat = y5.toInt.toNat + 1 by omega, bpart_out (fun g => by have q := q14.mpr g; omega), List.foldl_append]; exact bstep h55.1) (fun i hi => (h55.2 i (by rw [List.length_append]; omega)).trans ((gV_putn eτ23 (Or.inr (Or.inr (by omega)))).trans (nO i hi))) (by have q := hm45; omega)
          · have f60 : x27.toInt = 0 := by
              have q : _ := c29
              simp only [ti_nle, ti_nlt, ti_le, ti_lt, ti_eq, ti_ne, Classical.not_not, kt_0] at q
              omega
            have b61 : IV x27 0 0 := ⟨by have q1 := b28; have q2 := kc_0; omega, by have q1 := b28; have q2 := kc_0; omega⟩
            refine m_iload_n C dX0_ringFrom_77 rfl rfl ?_
            refine m_aload_n C dX0_ringFrom_78 rfl rfl ?_
            refine g_16_0 C q1_149 dX0_ringFrom_79 ?_
            refine m_iload C dX0_ringFrom_82 rfl ?_
            refine al_17 C b8 (by decide) rfl dX0_ringFrom_84 ?_
            refine m_topi (fun x62 ex62 => ?_)
            have q63 : x62.toInt = ν (y5.toInt.toNat) := by rw [← v26.2.2 (y5.toInt.toNat) (by omega), show gV τ23 17 0 (y5.toInt.toNat) = x62 from ex62.symm]
            have q65 := hν (y5.toInt.toNat)
            have b64 : IV x62 0 20 := ⟨by omega, by omega⟩
            refine m_iadd C dX0_ringFrom_85 ?_
            refine m_topi (fun x66 ex66 => ?_)
            have tx66 : x66.toInt = a3.toInt + x62.toInt := by rw [ex66, ti_addv b_a3 b64 (by decide)]
            have b67 : IV x66 0 20 := by rw [ex66]; exact iv_add b_a3 b64 (by decide)
            refine m_goto (tgt := 98) C dX0_ringFrom_86 (by decide) ?_
            refine m_istore (L1 := [some (.ref (G.1 16 0)), some (.int a1), some (.int a2), some (.int a3), some (.int a4), some (.int y5), some (.int x66), none]) C dX0_ringFrom_98 (by decide) rfl rfl ?_
            refine m_iload C dX0_ringFrom_100 rfl ?_
            refine m_iload C dX0_ringFrom_102 rfl ?_
            refine m_abs (st := [.int a4]) C q3_235 q3_66 q1_19 q3_67 ⟨by decide, Nat.le_of_ble_eq_true rfl⟩ (by decide) dX0_ringFrom_104 (fun x68 ex68 => ?_)
            have tx68 : x68.toInt = max x66.toInt (-x66.toInt) := ti_absv ex68 b67 (by decide)
            have b69 : IV x68 0 20 := ⟨by have q := b67; omega, by have q := b67; omega⟩
            refine m_max (st := []) C q3_236 q3_92 q1_19 q3_93 ⟨by decide, Nat.le_of_ble_eq_true rfl⟩ (by decide) dX0_ringFrom_107 (fun x70 ex70 => ?_)
            have tx70 : x70.toInt = max (a4.toInt) (x68.toInt) := by rw [ti_max ex70]
            have b71 : IV x70 0 20 := ⟨by have q1 := b_a4; have q2 := b69; omega, by have q1 := b_a4; have q2 := b69; omega⟩
            refine m_istore (L1 := [some (.ref (G.1 16 0)), some (.int a1), some (.int a2), some (.int a3), some (.int a4), some (.int y5), some (.int x66), some (.int x70)]) C dX0_ringFrom_110 (by decide) rfl rfl ?_
            refine m_aload_n C dX0_ringFrom_112 rfl rfl ?_
            refine m_iload_n C dX0_ringFrom_113 rfl rfl ?_
            refine m_iconst (v := 1) C dX0_ringFrom_114 (by decide) ?_
            refine m_iadd C dX0_ringFrom_115 ?_
            refine m_topi (fun x72 ex72 => ?_)
            have tx72 : x72.toInt = a1.toInt + 1 := by rw [ex72, ti_addv b_a1 kc_1 (by decide), kt_1]
            have b73 : IV x72 1 1 := by rw [ex72]; exact iv_add b_a1 kc_1 (by decide)
            refine m_iload_n C dX0_ringFrom_116 rfl rfl ?_
            refine m_iconst (v := 1) C dX0_ringFrom_117 (by decide) ?_
            refine m_iload C dX0_ringFrom_118 rfl ?_
            refine m_ishl C dX0_ringFrom_120 ?_
            refine m_topi (fun x74 ex74 => ?_)
            have b75 : IV x74 1 16 := by rw [ex74]; exact iv_shl1 b8 (by decide)
            refine m_ior C dX0_ringFrom_121 ?_
            refine m_topi (fun x76 ex76 => ?_)
            refine m_iload C dX0_ringFrom_122 rfl ?_
            refine m_iload C dX0_ringFrom_124 rfl ?_
            have q77 : (gV τ23 16 0 2).toInt = (gV τ 16 0 2).toInt := congrArg Int32.toInt (show (gV τ23 16 0 2) = (gV τ 16 0 2) from (show gV τ23 16 0 2 = (gV τ 16 0 2) from gV_put eτ23 rfl))
            have q78 : (gV τ23 16 0 4).toInt = (gV τ 16 0 4).toInt := congrArg Int32.toInt (show (gV τ23 16 0 4) = (gV τ 16 0 4) from (show gV τ23 16 0 4 = (gV τ 16 0 4) from gV_put eτ23 rfl))
            refine m_callV (n := 4) (ci := 0) (st := []) C (c_X0_ringB_4 l G τ23 bn ν (pr ++ [y5.toInt.toNat]) ((bpart bn (bn - pr.length - 1) pr y5.toInt.toNat).foldl (bupd ν) acc) (x72) (x76) (x66) (x70) i24 b73 (iv_wk b67 (by decide)) b71 v26 hν (ACC.same nA (gV_putn eτ23 (Or.inl (by decide))) (fun i => gV_putn eτ23 (Or.inl (by decide)))) (ORD.more (hor.same nO) eτ23 (by omega) (by omega)) (RBT.more hrb ex76 ex74 (iv_wk b8 (by decide))) ⟨by rw [bst_one hst.1 hst.2.1, if_pos (by omega)]; exact pr2 (by omega) (by omega), by rw [List.length_append, List.length_singleton, hst.2.1], by rw [List.length_append, List.length_singleton]; omega⟩) (by decide) (by decide) rfl rfl rfl q3_233 q3_230 q3_232 q0_24 q1_5 (by decide +kernel) rfl (by decide) (by decide) rfl (Nat.le_of_ble_eq_true rfl) dX0_ringFrom_126 ?_
            rintro _ τ79 ⟨rfl, i80, f81, h85⟩
            have g84 : Fr MS_X0_ringB_5 AS_X0_ringB_5 σ τ79 := Fr.call (f25) f81 (by decide)
            have v86 : RNG τ79 bn ν := v26.fr f81 (by decide) (by decide) (by simp) (by decide)
            have q87 : (gV τ79 16 0 2).toInt = (gV τ 16 0 2).toInt := congrArg Int32.toInt (show (gV τ79 16 0 2) = (gV τ 16 0 2) from (show gV τ79 16 0 2 = (gV τ 16 0 2) from (f81.1 16 0 (2) (by decide) (by decide)).trans (show gV τ23 16 0 2 = (gV τ 16 0 2) from gV_put eτ23 rfl)))
            show MW p l e _ s m args below meth c _ 8 G 0 0 129 [some (.ref (G.1 16 0)), some (.int a1), some (.int a2), some (.int a3), some (.int a4), some (.int y5), some (.int x66), some (.int x70)] [] τ79
            obtain ⟨x88, ex88⟩ : ∃ y : Int32, y = y5 + 1 := ⟨_, rfl⟩
            have tx88 : x88.toInt = y5.toInt + 1 := by rw [ex88, ti_addv b8 kc_1 (by decide), kt_1]
            have b89 : IV x88 1 5 := by rw [ex88]; exact iv_add b8 kc_1 (by decide)
            refine m_iinc (v := x88) (L1 := [some (.ref (G.1 16 0)), some (.int a1), some (.int a2), some (.int a3), some (.int a4), some (.int x88), some (.int x66), some (.int x70)]) C dX0_ringFrom_129 rfl (by rw [ex88]; rfl) (by decide) rfl rfl ?_
            refine m_goto (tgt := 45) C dX0_ringFrom_132 (by decide) ?_
            refine m_sub (L1 := [some (.ref (G.1 16 0)), some (.int a1), some (.int a2), some (.int a3), some (.int a4), some (.int x88), none, none]) ⟨rfl, ⟨rfl, ⟨rfl, ⟨rfl, ⟨rfl, ⟨rfl, trivial⟩⟩⟩⟩⟩⟩ ?_
            exact ih45 τ79 x88 i80 g84 b_a1 b_a2 b_a3 b_a4 (iv_wk b89 (by decide)) v86 (by omega) (by rw [show x88.toInt.toNat = y5.toInt.toNat + 1 by omega, bpart_out (fun g => by have q := q14.mpr g; omega), List.foldl_append]; exact bstep h85.1) (fun i hi => (h85.2 i (by rw [List.length_append]; omega)).trans ((gV_putn eτ23 (Or.inr (Or.inr (by omega)))).trans (nO i hi))) (by have q := hm45; omega)
  have u90 : IV (gV σ 16 0 2) 0 5 := hI.1 16 0 2
  have q91 : (gV σ 16 0 2).toInt = (bn : Int) := hrn.1
  have q92 := hrn.2.1
  refine m_iload C dX0_ringFrom_0 rfl ?_
  refine m_aload_n C dX0_ringFrom_2 rfl rfl ?_
  refine g_16_4 C q1_154 dX0_ringFrom_3 ?_
  refine m_eqs (w := (gV σ 16 0 4)) rfl ?_
  refine m_icmp_lt (tgt := 10) C dX0_ringFrom_6 (by decide) (fun c93 => ?_) (fun c93 => ?_)
  · have f94 : a4.toInt < (gV σ 16 0 4).toInt := by
      have q : _ := c93
      simp only [ti_nle, ti_nlt, ti_le, ti_lt, ti_eq, ti_ne, Classical.not_not] at q
      omega
    have b95 : IV (gV σ 16 0 4) 1 2147483647 := ⟨by have q1 := ha4; have q2 := (iv_any (gV σ 16 0 4)); omega, by have q1 := ha4; have q2 := (iv_any (gV σ 16 0 4)); omega⟩
    refine m_iload_n C dX0_ringFrom_10 rfl rfl ?_
    refine m_aload_n C dX0_ringFrom_11 rfl rfl ?_
    refine g_16_2 C q1_151 dX0_ringFrom_12 ?_
    refine m_eqs (w := (gV σ 16 0 2)) rfl ?_
    refine m_icmp_lt (tgt := 42) C dX0_ringFrom_15 (by decide) (fun c96 => ?_) (fun c96 => ?_)
    · have f97 : a1.toInt < (gV σ 16 0 2).toInt := by
        have q : _ := c96
        simp only [ti_nle, ti_nlt, ti_le, ti_lt, ti_eq, ti_ne, Classical.not_not] at q
        omega
      have b98 : IV (gV σ 16 0 2) 1 5 := ⟨by have q1 := ha1; have q2 := u90; omega, by have q1 := ha1; have q2 := u90; omega⟩
      refine m_iconst (v := 0) C dX0_ringFrom_42 (by decide) ?_
      refine m_istore (L1 := [some (.ref (G.1 16 0)), some (.int a1), some (.int a2), some (.int a3), some (.int a4), some (.int 0), none, none]) C dX0_ringFrom_43 (by decide) rfl rfl ?_
      exact J45 ((5 - (0 : Int32).toInt).toNat + 1) σ 0 hI Fr.rf ha1 (iv_any a2) ha3 ha4 (iv_wk kc_0 (by decide)) hrn (by omega) (by rw [kn_0, bpart_zero]; exact hac) (fun _ _ => rfl) (Nat.lt_succ_self _)
    · have f99 : (gV σ 16 0 2).toInt ≤ a1.toInt := by
        have q : _ := c96
        simp only [ti_nle, ti_nlt, ti_le, ti_lt, ti_eq, ti_ne, Classical.not_not] at q
        omega
      have b100 : IV (gV σ 16 0 2) 0 0 := ⟨by have q1 := u90; have q2 := ha1; omega, by have q1 := u90; have q2 := ha1; omega⟩
      refine m_aload_n C dX0_ringFrom_18 rfl rfl ?_
      refine m_iload C dX0_ringFrom_19 rfl ?_
      refine p_16_4 C q1_154 dX0_ringFrom_21 ?_
      refine m_tops (fun τ101 eτ101 => ?_)
      have i102 : Inv τ101 := eτ101 ▸ Inv.putF hI (by decide) rfl
      have f103 : Fr MS_X0_ringB_5 AS_X0_ringB_5 σ τ101 := eτ101 ▸ Fr.put (Fr.rf) (Or.inl (by decide))
      have v104 : RNG τ101 bn ν := RNG.put_ hrn eτ101 (Or.inr (by decide))
      refine m_aload_n C dX0_ringFrom_24 rfl rfl ?_
      refine g_16_1 C q1_150 dX0_ringFrom_25 ?_
      refine m_iconst (v := 0) C dX0_ringFrom_28 (by decide) ?_
      refine m_aload_n C dX0_ringFrom_29 rfl rfl ?_
      refine g_16_3 C q1_152 dX0_ringFrom_30 ?_
      refine m_iconst (v := 0) C dX0_ringFrom_33 (by decide) ?_
      refine m_aload_n C dX0_ringFrom_34 rfl rfl ?_
      refine g_16_2 C q1_151 dX0_ringFrom_35 ?_
      refine m_eqs (w := (gV σ 16 0 2)) (show gV τ101 16 0 2 = (gV σ 16 0 2) from gV_put eτ101 rfl) ?_
      have q105 := b100
      have q106 := kt_0
      refine m_copy (t0 := 18) (n0 := 5) (t1 := 19) (n1 := 5) (st := []) C (by decide) (by decide) rfl (by decide) (by decide) (fun _ => rfl) ⟨by omega, by omega, by omega, by omega, by omega⟩ q3_234 q2_30 q2_29 q1_8 ⟨by decide, by decide +kernel⟩ dX0_ringFrom_38 ?_
      refine m_tops (fun τ107 eτ107 => ?_)
      have i108 : Inv τ107 := eτ107 ▸ Inv.putRow i102 (by decide) (fun _ => rfl)
      have f109 : Fr MS_X0_ringB_5 AS_X0_ringB_5 σ τ107 := eτ107 ▸ Fr.putRow (f103) (by decide)
      exact m_vret C hr hlk (by decide) (by decide) dX0_ringFrom_41 ⟨rfl, i108, f109, ⟨by rw [bleaf (by omega) (by rw [bcost_of hst.1]; have q := hac.1; omega), bcost_of hst.1]; exact ACC.leaf hor eτ101 eτ107 (by decide) (by decide) (by omega) (by omega) rfl, fun i _ => by rw [eτ107, gV_sR (Or.inl (by decide)), gV_putn eτ101 (Or.inl (by decide))]⟩⟩
  · have f110 : (gV σ 16 0 4).toInt ≤ a4.toInt := by
      have q : _ := c93
      simp only [ti_nle, ti_nlt, ti_le, ti_lt, ti_eq, ti_ne, Classical.not_not] at q
      omega
    have b111 : IV (gV σ 16 0 4) (-2147483648) 0 := ⟨by have q1 := (iv_any (gV σ 16 0 4)); have q2 := ha4; omega, by have q1 := (iv_any (gV σ 16 0 4)); have q2 := ha4; omega⟩
    exact m_vret C hr hlk (by decide) (by decide) dX0_ringFrom_9 ⟨rfl, hI, Fr.rf, ⟨by rw [bfold_cut ν bn _ pr acc (by rw [bcost_of hst.1]; have q := hac.1; omega)]; exact hac, fun _ _ => rfl⟩⟩

abbrev MS_X0_findB : List (Nat × Nat) := [(16, 2), (16, 4)]
abbrev AS_X0_findB : List Nat := [17, 18, 19]
set_option maxHeartbeats 4000000 in
set_option maxRecDepth 100000 in
theorem c_X0_findB (l : Launch) (G : Gt) (σ : Sg) (ν : Nat → Int) {j2 : Nat} (hj2 : j2 < 8) (a2 : Int32) (hI : Inv σ) (ha2 : IV a2 1 5) (hν : ∀ b, 0 ≤ ν b ∧ ν b ≤ 20) (hit : ∀ i, i < a2.toInt.toNat → (gV σ 21 j2 i).toInt = ν i) : Mc l G yX0_findBest cX0_findBest 4 none 7 222 0 0 [.ref (G.1 16 0), .ref (G.1 21 j2), .int a2] σ (PV fun τ => Inv τ ∧ Fr MS_X0_findB AS_X0_findB σ τ ∧ ACC τ a2.toInt.toNat (bbest ν a2.toInt.toNat)) := by
  refine Mc.of (L0 := [some (.ref (G.1 16 0)), some (.ref (G.1 21 j2)), some (.int a2), none]) (by decide) (Nat.le_of_ble_eq_true rfl) rfl ?_
  intro p e s m args below meth c C hr hlk
  have C : Cx p s m args c cX0_findBest 4 "LeanTower$Bells" := C
  have k0 : (0 : Int32).toInt = 0 := by decide
  have k1 : (1 : Int32).toInt = 1 := by decide
  have J40 : ∀ (τ : Sg), Inv τ → Fr MS_X0_findB AS_X0_findB σ τ → IV a2 1 5 → ((gV τ 16 0 2).toInt = a2.toInt) → (∀ i, i < a2.toInt.toNat → (gV τ 17 0 i).toInt = ν i) → MW p l e { frames := 7, cells := 0, slots := 0, locals := 222 } s m args below meth c (MQ below (QP G (PV fun τ => Inv τ ∧ Fr MS_X0_findB AS_X0_findB σ τ ∧ ACC τ a2.toInt.toNat (bbest ν a2.toInt.toNat))) args s 0 0 (aG G)) 4 G 0 0 40 [some (.ref (G.1 16 0)), none, none, none] [] τ := by
    intro τ iτ fτ b_a2 n1 nN
    have u2 : IV (gV τ 16 0 2) 0 5 := iτ.1 16 0 2
    refine m_aload_n C dX0_findBest_40 rfl rfl ?_
    refine m_bipush (v := 101) C dX0_findBest_41 (by decide) ?_
    refine p_16_4 C q1_154 dX0_findBest_43 ?_
    refine m_tops (fun τ3 eτ3 => ?_)
    have i4 : Inv τ3 := eτ3 ▸ Inv.putF iτ (by decide) rfl
    have f5 : Fr MS_X0_findB AS_X0_findB σ τ3 := eτ3 ▸ Fr.put (fτ) (Or.inl (by decide))
    refine m_aload_n C dX0_findBest_46 rfl rfl ?_
    refine m_iconst (v := 0) C dX0_findBest_47 (by decide) ?_
    refine m_iconst (v := 0) C dX0_findBest_48 (by decide) ?_
    refine m_iconst (v := 0) C dX0_findBest_49 (by decide) ?_
    refine m_iconst (v := 0) C dX0_findBest_50 (by decide) ?_
    have q6 : (gV τ3 16 0 2).toInt = (gV τ 16 0 2).toInt := congrArg Int32.toInt (show (gV τ3 16 0 2) = (gV τ 16 0 2) from (show gV τ3 16 0 2 = (gV τ 16 0 2) from gV_put eτ3 rfl))
    have q7 : (gV τ3 16 0 4).toInt = 101 := (congrArg Int32.toInt (show (gV τ3 16 0 4) = 101 from (show gV τ3 16 0 4 = 101 from gV_put eτ3 (gV_self _ _ _ _ _)))).trans kt_101
    have q8 := kt_0
    have q9 := kt_0
    have q10 := kt_0
    have q11 := kt_0
    refine m_callV (n := 4) (ci := 0) (st := []) C (c_X0_ringB_5 l G τ3 a2.toInt.toNat ν [] ((101 : Int), ([] : List Nat)) (0) (0) (0) (0) i4 kc_0 kc_0 kc_0 ⟨by omega, by omega, fun i hi => by rw [gV_putn eτ3 (Or.inl (by decide))]; exact nN i (by omega)⟩ hν ⟨by show _ = (101 : Int); omega, Or.inl rfl⟩ (fun i hi => absurd hi (Nat.not_lt_zero _)) rbt_nil ⟨by rw [kt_0]; rfl, rfl, Nat.zero_le _⟩) (by decide) (by decide) rfl rfl rfl q3_233 q3_230 q3_232 q0_24 q1_5 (by decide +kernel) rfl (by decide) (by decide) rfl (Nat.le_of_ble_eq_true rfl) dX0_findBest_51 ?_
    rintro _ τ12 ⟨rfl, i13, f14, h18⟩
    have g17 : Fr MS_X0_findB AS_X0_findB σ τ12 := Fr.call (f5) f14 (by decide)
    have q19 : (gV τ12 16 0 2).toInt = (gV τ 16 0 2).toInt := congrArg Int32.toInt (show (gV τ12 16 0 2) = (gV τ 16 0 2) from (show gV τ12 16 0 2 = (gV τ 16 0 2) from (f14.1 16 0 (2) (by decide) (by decide)).trans (show gV τ3 16 0 2 = (gV τ 16 0 2) from gV_put eτ3 rfl)))
    show MW p l e _ s m args below meth c _ 4 G 0 0 54 [some (.ref (G.1 16 0)), none, none, none] [] τ12
    exact m_vret C hr hlk (by decide) (by decide) dX0_findBest_54 ⟨rfl, i13, g17, h18.1⟩
  have J11 : ∀ (n : Nat) (τ : Sg) (y3 : Int32), Inv τ → Fr MS_X0_findB AS_X0_findB σ τ → IV a2 1 5 → IV y3 0 5 → ((gV τ 16 0 2).toInt = a2.toInt) → (∀ i, i < y3.toInt.toNat → (gV τ 17 0 i).toInt = ν i) → (5 - y3.toInt).toNat < n → MW p l e { frames := 7, cells := 0, slots := 0, locals := 222 } s m args below meth c (MQ below (QP G (PV fun τ => Inv τ ∧ Fr MS_X0_findB AS_X0_findB σ τ ∧ ACC τ a2.toInt.toNat (bbest ν a2.toInt.toNat))) args s 0 0 (aG G)) 4 G 0 0 11 [some (.ref (G.1 16 0)), some (.ref (G.1 21 j2)), none, some (.int y3)] [] τ := by
    intro n
    induction n with
    | zero => intro τ y3 iτ fτ b_a2 b_y3 n20 nN hm; exact absurd hm (Nat.not_lt_zero _)
    | succ n ih11 =>
      intro τ y3 iτ fτ b_a2 b_y3 n20 nN hm11
      have u21 : IV (gV τ 16 0 2) 0 5 := iτ.1 16 0 2
      refine m_iload_n C dX0_findBest_11 rfl rfl ?_
      refine m_aload_n C dX0_findBest_12 rfl rfl ?_
      refine g_16_2 C q1_151 dX0_findBest_13 ?_
      refine m_eqs (w := (gV τ 16 0 2)) rfl ?_
      refine m_icmp_ge (tgt := 40) C dX0_findBest_16 (by decide) (fun c22 => ?_) (fun c22 => ?_)
      · have f23 : (gV τ 16 0 2).toInt ≤ y3.toInt := by
          have q : _ := c22
          simp only [ti_nle, ti_nlt, ti_le, ti_lt, ti_eq, ti_ne, Classical.not_not] at q
          omega
        refine m_sub (L1 := [some (.ref (G.1 16 0)), none, none, none]) ⟨rfl, trivial⟩ ?_
        exact J40 τ iτ fτ b_a2 (by omega) (fun i hi => nN i (by omega))
      · have f24 : y3.toInt < (gV τ 16 0 2).toInt := by
          have q : _ := c22
          simp only [ti_nle, ti_nlt, ti_le, ti_lt, ti_eq, ti_ne, Classical.not_not] at q
          omega
        have b25 : IV y3 0 4 := ⟨by have q1 := b_y3; have q2 := u21; omega, by have q1 := b_y3; have q2 := u21; omega⟩
        have b26 : IV (gV τ 16 0 2) 1 5 := ⟨by have q1 := b_y3; have q2 := u21; omega, by have q1 := b_y3; have q2 := u21; omega⟩
        refine m_iload_n C dX0_findBest_19 rfl rfl ?_
        refine m_aload_n C dX0_findBest_20 rfl rfl ?_
        refine m_alen (t := 21) (v := 40) C (by decide) hj2 (fun _ => rfl) rfl dX0_findBest_21 ?_
        refine m_icmp_ge (tgt := 40) C dX0_findBest_22 (by decide) (fun c27 => ?_) (fun c27 => ?_)
        · exfalso
          have q : _ := c27
          simp only [ti_nle, ti_nlt, ti_le, ti_lt, ti_eq, ti_ne, Classical.not_not, kt_40] at q
          have q1 := b25; have q2 := kc_40; omega
        · have f29 : y3.toInt < 40 := by
            have q : _ := c27
            simp only [ti_nle, ti_nlt, ti_le, ti_lt, ti_eq, ti_ne, Classical.not_not, kt_40] at q
            omega
          refine m_aload_n C dX0_findBest_25 rfl rfl ?_
          refine g_16_0 C q1_149 dX0_findBest_26 ?_
          refine m_iload_n C dX0_findBest_29 rfl rfl ?_
          refine m_aload_n C dX0_findBest_30 rfl rfl ?_
          refine m_iload_n C dX0_findBest_31 rfl rfl ?_
          refine al_21 C hj2 b25 (by decide) rfl dX0_findBest_32 ?_
          refine m_topi (fun x30 ex30 => ?_)
          have q31 : x30.toInt = ν (y3.toInt.toNat) := by rw [← hit (y3.toInt.toNat) (by omega), ex30, (fτ).1 21 _ _ (by simp) (by decide)]
          refine as_17 C b25 (by decide) rfl dX0_findBest_33 ?_
          refine m_tops (fun τ32 eτ32 => ?_)
          have i33 : Inv τ32 := eτ32 ▸ Inv.putF iτ (by decide) rfl
          have f34 : Fr MS_X0_findB AS_X0_findB σ τ32 := eτ32 ▸ Fr.put (fτ) (Or.inr (by decide))
          obtain ⟨x35, ex35⟩ : ∃ y : Int32, y = y3 + 1 := ⟨_, rfl⟩
          have tx35 : x35.toInt = y3.toInt + 1 := by rw [ex35, ti_addv b25 kc_1 (by decide), kt_1]
          have b36 : IV x35 1 5 := by rw [ex35]; exact iv_add b25 kc_1 (by decide)
          refine m_iinc (v := x35) (L1 := [some (.ref (G.1 16 0)), some (.ref (G.1 21 j2)), none, some (.int x35)]) C dX0_findBest_34 rfl (by rw [ex35]; rfl) (by decide) rfl rfl ?_
          refine m_goto (tgt := 11) C dX0_findBest_37 (by decide) ?_
          have q37 : (gV τ32 16 0 2).toInt = (gV τ 16 0 2).toInt := congrArg Int32.toInt (show (gV τ32 16 0 2) = (gV τ 16 0 2) from (show gV τ32 16 0 2 = (gV τ 16 0 2) from gV_put eτ32 rfl))
          have q38 : (gV τ32 16 0 4).toInt = (gV τ 16 0 4).toInt := congrArg Int32.toInt (show (gV τ32 16 0 4) = (gV τ 16 0 4) from (show gV τ32 16 0 4 = (gV τ 16 0 4) from gV_put eτ32 rfl))
          exact ih11 τ32 x35 i33 f34 b_a2 (iv_wk b36 (by decide)) (by omega) (fun i hi => by by_cases g : i = y3.toInt.toNat; (rw [g, show gV τ32 17 0 (y3.toInt.toNat) = x30 by rw [eτ32, gV_self]]; omega); (rw [gV_putn eτ32 (Or.inr (Or.inr g))]; exact nN i (by omega))) (by have q := hm11; omega)
  have u39 : IV (gV σ 16 0 2) 0 5 := hI.1 16 0 2
  refine m_aload_n C dX0_findBest_0 rfl rfl ?_
  refine m_iload_n C dX0_findBest_1 rfl rfl ?_
  refine m_iconst (v := 5) C dX0_findBest_2 (by decide) ?_
  refine m_min (st := [.ref (G.1 16 0)]) C q3_229 q3_69 q1_19 q3_70 ⟨by decide, Nat.le_of_ble_eq_true rfl⟩ (by decide) dX0_findBest_3 (fun x40 ex40 => ?_)
  have tx40 : x40.toInt = min (a2.toInt) (5) := by rw [ti_min ex40, kt_5]
  have b41 : IV x40 1 5 := ⟨by have q1 := ha2; have q2 := kc_5; omega, by have q1 := ha2; have q2 := kc_5; omega⟩
  refine p_16_2 C q1_151 dX0_findBest_6 ?_
  refine m_tops (fun τ42 eτ42 => ?_)
  have i43 : Inv τ42 := eτ42 ▸ Inv.put hI (by decide) (iv_wk b41 (by decide))
  have f44 : Fr MS_X0_findB AS_X0_findB σ τ42 := eτ42 ▸ Fr.put (Fr.rf) (Or.inl (by decide))
  refine m_iconst (v := 0) C dX0_findBest_9 (by decide) ?_
  refine m_istore_n (L1 := [some (.ref (G.1 16 0)), some (.ref (G.1 21 j2)), some (.int a2), some (.int 0)]) C dX0_findBest_10 rfl (by decide) rfl rfl ?_
  refine m_sub (L1 := [some (.ref (G.1 16 0)), some (.ref (G.1 21 j2)), none, some (.int 0)]) ⟨rfl, ⟨rfl, ⟨rfl, trivial⟩⟩⟩ ?_
  have q45 : (gV τ42 16 0 4).toInt = (gV σ 16 0 4).toInt := congrArg Int32.toInt (show (gV τ42 16 0 4) = (gV σ 16 0 4) from (show gV τ42 16 0 4 = (gV σ 16 0 4) from gV_put eτ42 rfl))
  have q46 : (gV τ42 16 0 2).toInt = x40.toInt := congrArg Int32.toInt (show (gV τ42 16 0 2) = x40 from (show gV τ42 16 0 2 = x40 from gV_put eτ42 (gV_self _ _ _ _ _)))
  exact J11 ((5 - (0 : Int32).toInt).toNat + 1) τ42 0 i43 f44 ha2 (iv_wk kc_0 (by decide)) (by omega) (fun i hi => absurd hi (by rw [kn_0]; omega)) (Nat.lt_succ_self _)
