abbrev MS_X6_readIntoE : List (Nat × Nat) := [(1, 0), (1, 1), (1, 2), (1, 3), (1, 9), (1, 10), (1, 11), (12, 1), (12, 2), (12, 3), (12, 4), (12, 5), (12, 6), (12, 7)]
abbrev AS_X6_readIntoE : List Nat := [2, 3, 4, 5, 6, 99]
set_option maxHeartbeats 4000000 in
set_option maxRecDepth 100000 in
theorem c_X6_readIntoE (l : Launch) (G : Gt) (σ : Sg) {j2 : Nat} (hj2 : j2 < 28) (hI : Inv σ) : Mc l G yX6_readInto cX6_readInto 4 (some .boolean) 7 158 8 24 [.ref (G.1 12 0), .ref (G.1 1 j2)] σ (PI fun r τ => Inv τ ∧ Fr MS_X6_readIntoE AS_X6_readIntoE σ τ ∧ IV r 0 1 ∧ (gV τ 12 0 1).toInt = 0) := by
  refine Mc.of (L0 := [some (.ref (G.1 12 0)), some (.ref (G.1 1 j2)), none, none]) (by decide) (Nat.le_of_ble_eq_true rfl) rfl ?_
  intro p e s m args below meth c C hr hlk
  have C : Cx p s m args c cX6_readInto 4 "LeanTower$Reader" := C
  have k0 : (0 : Int32).toInt = 0 := by decide
  have k1 : (1 : Int32).toInt = 1 := by decide
  have J84 : ∀ (τ : Sg) (y2 : Int32), Inv τ → Fr MS_X6_readIntoE AS_X6_readIntoE σ τ → IV y2 0 1 → MW p l e { frames := 7, cells := 8, slots := 24, locals := 158 } s m args below meth c (MQ below (QP G (PI fun r τ => Inv τ ∧ Fr MS_X6_readIntoE AS_X6_readIntoE σ τ ∧ IV r 0 1 ∧ (gV τ 12 0 1).toInt = 0)) args s 8 24 (aG G)) 4 G 8 24 84 [some (.ref (G.1 12 0)), none, some (.int y2), none] [] τ := by
    intro τ y2 iτ fτ b_y2
    have u1 : IV (gV τ 12 0 1) 0 400 := iτ.1 12 0 1
    refine m_iload_n C dX6_readInto_84 rfl rfl ?_
    refine m_if_eq (tgt := 107) C dX6_readInto_85 (by decide) (fun c2 => ?_) (fun c2 => ?_)
    · have f3 : y2.toInt = 0 := by
        have q : _ := c2
        simp only [ti_nle, ti_nlt, ti_le, ti_lt, ti_eq, ti_ne, Classical.not_not, kt_0] at q
        omega
      have b4 : IV y2 0 0 := ⟨by have q1 := b_y2; have q2 := kc_0; omega, by have q1 := b_y2; have q2 := kc_0; omega⟩
      refine m_iconst (v := 0) C dX6_readInto_107 (by decide) ?_
      refine m_istore_n (L1 := [some (.ref (G.1 12 0)), none, some (.int 0), none]) C dX6_readInto_108 rfl (by decide) rfl rfl ?_
      refine m_aload_n C dX6_readInto_109 rfl rfl ?_
      refine m_iconst (v := 0) C dX6_readInto_110 (by decide) ?_
      refine p_12_1 C q1_38 dX6_readInto_111 ?_
      refine m_tops (fun τ5 eτ5 => ?_)
      have i6 : Inv τ5 := eτ5 ▸ Inv.put iτ (by decide) (iv_wk kc_0 (by decide))
      have f7 : Fr MS_X6_readIntoE AS_X6_readIntoE σ τ5 := eτ5 ▸ Fr.put (fτ) (Or.inl (by decide))
      refine m_iload_n C dX6_readInto_114 rfl rfl ?_
      have q8 : (gV τ5 12 0 1).toInt = 0 := (congrArg Int32.toInt (show (gV τ5 12 0 1) = 0 from (show gV τ5 12 0 1 = 0 from gV_put eτ5 (gV_self _ _ _ _ _)))).trans kt_0
      exact m_zret C hr rfl hlk (by decide) (by decide) dX6_readInto_115 ⟨_, rfl, i6, f7, (iv_wk kc_0 (by decide)), (by omega)⟩
    · have f9 : y2.toInt ≠ 0 := by
        have q : _ := c2
        simp only [ti_nle, ti_nlt, ti_le, ti_lt, ti_eq, ti_ne, Classical.not_not, kt_0] at q
        omega
      have b10 : IV y2 1 1 := ⟨by have q1 := b_y2; have q2 := kc_0; omega, by have q1 := b_y2; have q2 := kc_0; omega⟩
      refine m_aload_n C dX6_readInto_88 rfl rfl ?_
      refine g_12_6 C q1_46 dX6_readInto_89 ?_
      refine m_topi (fun x11 ex11 => ?_)
      refine m_if_eq (tgt := 103) C dX6_readInto_92 (by decide) (fun c12 => ?_) (fun c12 => ?_)
      · have f13 : x11.toInt = 0 := by
          have q : _ := c12
          simp only [ti_nle, ti_nlt, ti_le, ti_lt, ti_eq, ti_ne, Classical.not_not, kt_0] at q
          omega
        have b14 : IV x11 0 0 := ⟨by have q1 := (iv_any x11); have q2 := kc_0; omega, by have q1 := (iv_any x11); have q2 := kc_0; omega⟩
        refine m_iconst (v := 1) C dX6_readInto_103 (by decide) ?_
        refine m_goto (tgt := 108) C dX6_readInto_104 (by decide) ?_
        refine m_istore_n (L1 := [some (.ref (G.1 12 0)), none, some (.int 1), none]) C dX6_readInto_108 rfl (by decide) rfl rfl ?_
        refine m_aload_n C dX6_readInto_109 rfl rfl ?_
        refine m_iconst (v := 0) C dX6_readInto_110 (by decide) ?_
        refine p_12_1 C q1_38 dX6_readInto_111 ?_
        refine m_tops (fun τ15 eτ15 => ?_)
        have i16 : Inv τ15 := eτ15 ▸ Inv.put iτ (by decide) (iv_wk kc_0 (by decide))
        have f17 : Fr MS_X6_readIntoE AS_X6_readIntoE σ τ15 := eτ15 ▸ Fr.put (fτ) (Or.inl (by decide))
        refine m_iload_n C dX6_readInto_114 rfl rfl ?_
        have q18 : (gV τ15 12 0 1).toInt = 0 := (congrArg Int32.toInt (show (gV τ15 12 0 1) = 0 from (show gV τ15 12 0 1 = 0 from gV_put eτ15 (gV_self _ _ _ _ _)))).trans kt_0
        exact m_zret C hr rfl hlk (by decide) (by decide) dX6_readInto_115 ⟨_, rfl, i16, f17, (iv_wk kc_1 (by decide)), (by omega)⟩
      · have f19 : x11.toInt ≠ 0 := by
          have q : _ := c12
          simp only [ti_nle, ti_nlt, ti_le, ti_lt, ti_eq, ti_ne, Classical.not_not, kt_0] at q
          omega
        refine m_aload_n C dX6_readInto_95 rfl rfl ?_
        refine m_iconst (v := 1) C dX6_readInto_96 (by decide) ?_
        refine m_callV (n := 1) (ci := 5) (st := []) C (c_X6_refuse l G τ (1) iτ ) (by decide) (by decide) rfl rfl rfl q2_141 q2_138 q2_140 q0_8 q1_2 (by decide +kernel) rfl (by decide) (by decide) rfl (Nat.le_of_ble_eq_true rfl) dX6_readInto_97 ?_
        rintro _ τ20 ⟨x23, rfl, i21, f22, b24⟩
        have g25 : Fr MS_X6_readIntoE AS_X6_readIntoE σ τ20 := Fr.call (fτ) f22 (by decide)
        show MW p l e _ s m args below meth c _ 4 G 8 24 100 [some (.ref (G.1 12 0)), none, some (.int y2), none] [.int x23] τ20
        refine m_if_eq (tgt := 107) C dX6_readInto_100 (by decide) (fun c27 => ?_) (fun c27 => ?_)
        · have f28 : x23.toInt = 0 := by
            have q : _ := c27
            simp only [ti_nle, ti_nlt, ti_le, ti_lt, ti_eq, ti_ne, Classical.not_not, kt_0] at q
            omega
          refine m_iconst (v := 0) C dX6_readInto_107 (by decide) ?_
          refine m_istore_n (L1 := [some (.ref (G.1 12 0)), none, some (.int 0), none]) C dX6_readInto_108 rfl (by decide) rfl rfl ?_
          refine m_aload_n C dX6_readInto_109 rfl rfl ?_
          refine m_iconst (v := 0) C dX6_readInto_110 (by decide) ?_
          refine p_12_1 C q1_38 dX6_readInto_111 ?_
          refine m_tops (fun τ29 eτ29 => ?_)
          have i30 : Inv τ29 := eτ29 ▸ Inv.put i21 (by decide) (iv_wk kc_0 (by decide))
          have f31 : Fr MS_X6_readIntoE AS_X6_readIntoE σ τ29 := eτ29 ▸ Fr.put (g25) (Or.inl (by decide))
          refine m_iload_n C dX6_readInto_114 rfl rfl ?_
          have q32 : (gV τ29 12 0 1).toInt = 0 := (congrArg Int32.toInt (show (gV τ29 12 0 1) = 0 from (show gV τ29 12 0 1 = 0 from gV_put eτ29 (gV_self _ _ _ _ _)))).trans kt_0
          exact m_zret C hr rfl hlk (by decide) (by decide) dX6_readInto_115 ⟨_, rfl, i30, f31, (iv_wk kc_0 (by decide)), (by omega)⟩
        · exfalso
          have q : _ := c27
          simp only [ti_nle, ti_nlt, ti_le, ti_lt, ti_eq, ti_ne, Classical.not_not, kt_0] at q
          have q1 := b24; have q2 := kc_0; omega
  have J54 : ∀ (n : Nat) (τ : Sg) (y2 : Int32) (y3 : Int32), Inv τ → Fr MS_X6_readIntoE AS_X6_readIntoE σ τ → IV y2 0 1 → IV y3 0 5 → (5 - y3.toInt).toNat < n → MW p l e { frames := 7, cells := 8, slots := 24, locals := 158 } s m args below meth c (MQ below (QP G (PI fun r τ => Inv τ ∧ Fr MS_X6_readIntoE AS_X6_readIntoE σ τ ∧ IV r 0 1 ∧ (gV τ 12 0 1).toInt = 0)) args s 8 24 (aG G)) 4 G 8 24 54 [some (.ref (G.1 12 0)), some (.ref (G.1 1 j2)), some (.int y2), some (.int y3)] [] τ := by
    intro n
    induction n with
    | zero => intro τ y2 y3 iτ fτ b_y2 b_y3 hm; exact absurd hm (Nat.not_lt_zero _)
    | succ n ih54 =>
      intro τ y2 y3 iτ fτ b_y2 b_y3 hm54
      have u34 : IV (gV τ 12 0 1) 0 400 := iτ.1 12 0 1
      refine m_iload_n C dX6_readInto_54 rfl rfl ?_
      refine m_if_eq (tgt := 84) C dX6_readInto_55 (by decide) (fun c35 => ?_) (fun c35 => ?_)
      · have f36 : y2.toInt = 0 := by
          have q : _ := c35
          simp only [ti_nle, ti_nlt, ti_le, ti_lt, ti_eq, ti_ne, Classical.not_not, kt_0] at q
          omega
        have b37 : IV y2 0 0 := ⟨by have q1 := b_y2; have q2 := kc_0; omega, by have q1 := b_y2; have q2 := kc_0; omega⟩
        refine m_widen (c2 := 8) (s2 := 24) (by omega) (by omega) ?_
        refine m_sub (L1 := [some (.ref (G.1 12 0)), none, some (.int y2), none]) ⟨rfl, ⟨rfl, trivial⟩⟩ ?_
        exact J84 τ y2 iτ fτ (iv_wk b37 (by decide))
      · have f38 : y2.toInt ≠ 0 := by
          have q : _ := c35
          simp only [ti_nle, ti_nlt, ti_le, ti_lt, ti_eq, ti_ne, Classical.not_not, kt_0] at q
          omega
        have b39 : IV y2 1 1 := ⟨by have q1 := b_y2; have q2 := kc_0; omega, by have q1 := b_y2; have q2 := kc_0; omega⟩
        refine m_iload_n C dX6_readInto_58 rfl rfl ?_
        refine m_iconst (v := 4) C dX6_readInto_59 (by decide) ?_
        refine m_icmp_gt (tgt := 84) C dX6_readInto_60 (by decide) (fun c40 => ?_) (fun c40 => ?_)
        · have f41 : 4 < y3.toInt := by
            have q : _ := c40
            simp only [ti_nle, ti_nlt, ti_le, ti_lt, ti_eq, ti_ne, Classical.not_not, kt_4] at q
            omega
          have b42 : IV y3 5 5 := ⟨by have q1 := kc_4; have q2 := b_y3; omega, by have q1 := kc_4; have q2 := b_y3; omega⟩
          refine m_widen (c2 := 8) (s2 := 24) (by omega) (by omega) ?_
          refine m_sub (L1 := [some (.ref (G.1 12 0)), none, some (.int y2), none]) ⟨rfl, ⟨rfl, trivial⟩⟩ ?_
          exact J84 τ y2 iτ fτ (iv_wk b39 (by decide))
        · have f43 : y3.toInt ≤ 4 := by
            have q : _ := c40
            simp only [ti_nle, ti_nlt, ti_le, ti_lt, ti_eq, ti_ne, Classical.not_not, kt_4] at q
            omega
          have b44 : IV y3 0 4 := ⟨by have q1 := b_y3; have q2 := kc_4; omega, by have q1 := b_y3; have q2 := kc_4; omega⟩
          refine m_aload_n C dX6_readInto_63 rfl rfl ?_
          refine s_ldc (w := 7) (tx := "") C rfl (by decide) rfl dX6_readInto_64 ?_
          refine m_callV (n := 1) (ci := 5) (st := []) C (c_X6_isWord l G τ (w := 7) (by decide) iτ ) (by decide) (by decide) rfl rfl rfl q2_89 q2_86 q2_88 q0_7 q1_2 (by decide +kernel) rfl (by decide) (by decide) rfl (Nat.le_of_ble_eq_true rfl) dX6_readInto_66 ?_
          rintro _ τ45 ⟨x48, rfl, i46, f47, b49⟩
          have g50 : Fr MS_X6_readIntoE AS_X6_readIntoE σ τ45 := Fr.call (fτ) f47 (by decide)
          show MW p l e _ s m args below meth c _ 4 G 8 24 69 [some (.ref (G.1 12 0)), some (.ref (G.1 1 j2)), some (.int y2), some (.int y3)] [.int x48] τ45
          refine m_if_eq (tgt := 84) C dX6_readInto_69 (by decide) (fun c52 => ?_) (fun c52 => ?_)
          · have f53 : x48.toInt = 0 := by
              have q : _ := c52
              simp only [ti_nle, ti_nlt, ti_le, ti_lt, ti_eq, ti_ne, Classical.not_not, kt_0] at q
              omega
            have b54 : IV x48 0 0 := ⟨by have q1 := b49; have q2 := kc_0; omega, by have q1 := b49; have q2 := kc_0; omega⟩
            refine m_widen (c2 := 8) (s2 := 24) (by omega) (by omega) ?_
            refine m_sub (L1 := [some (.ref (G.1 12 0)), none, some (.int y2), none]) ⟨rfl, ⟨rfl, trivial⟩⟩ ?_
            have q55 : (gV τ45 12 0 1).toInt = (gV τ 12 0 1).toInt := congrArg Int32.toInt (show (gV τ45 12 0 1) = (gV τ 12 0 1) from (show gV τ45 12 0 1 = (gV τ 12 0 1) from (f47.1 12 0 (1) (by decide) (by decide)).trans rfl))
            exact J84 τ45 y2 i46 g50 (iv_wk b39 (by decide))
          · have f56 : x48.toInt ≠ 0 := by
              have q : _ := c52
              simp only [ti_nle, ti_nlt, ti_le, ti_lt, ti_eq, ti_ne, Classical.not_not, kt_0] at q
              omega
            have b57 : IV x48 1 1 := ⟨by have q1 := b49; have q2 := kc_0; omega, by have q1 := b49; have q2 := kc_0; omega⟩
            refine m_aload_n C dX6_readInto_72 rfl rfl ?_
            refine m_aload_n C dX6_readInto_73 rfl rfl ?_
            refine m_callV (n := 1) (ci := 5) (st := []) C (c_X6_readStone l G τ45 (j2 := j2) hj2 i46 ) (by decide) (by decide) rfl rfl rfl q3_0 q2_237 q2_239 q0_13 q1_2 (by decide +kernel) rfl (by decide) (by decide) rfl (Nat.le_of_ble_eq_true rfl) dX6_readInto_74 ?_
            rintro _ τ58 ⟨x61, rfl, i59, f60, b62⟩
            have g63 : Fr MS_X6_readIntoE AS_X6_readIntoE σ τ58 := Fr.call (g50) f60 (by decide)
            show MW p l e _ s m args below meth c _ 4 G 8 24 77 [some (.ref (G.1 12 0)), some (.ref (G.1 1 j2)), some (.int y2), some (.int y3)] [.int x61] τ58
            refine m_istore_n (L1 := [some (.ref (G.1 12 0)), some (.ref (G.1 1 j2)), some (.int x61), some (.int y3)]) C dX6_readInto_77 rfl (by decide) rfl rfl ?_
            obtain ⟨x65, ex65⟩ : ∃ y : Int32, y = y3 + 1 := ⟨_, rfl⟩
            have tx65 : x65.toInt = y3.toInt + 1 := by rw [ex65, ti_addv b44 kc_1 (by decide), kt_1]
            have b66 : IV x65 1 5 := by rw [ex65]; exact iv_add b44 kc_1 (by decide)
            refine m_iinc (v := x65) (L1 := [some (.ref (G.1 12 0)), some (.ref (G.1 1 j2)), some (.int x61), some (.int x65)]) C dX6_readInto_78 rfl (by rw [ex65]; rfl) (by decide) rfl rfl ?_
            refine m_goto (tgt := 54) C dX6_readInto_81 (by decide) ?_
            refine m_widen (c2 := 8) (s2 := 24) (by omega) (by omega) ?_
            have q67 : (gV τ58 12 0 1).toInt = (gV τ 12 0 1).toInt := congrArg Int32.toInt (show (gV τ58 12 0 1) = (gV τ 12 0 1) from (show gV τ58 12 0 1 = (gV τ 12 0 1) from (f60.1 12 0 (1) (by decide) (by decide)).trans (show gV τ45 12 0 1 = (gV τ 12 0 1) from (f47.1 12 0 (1) (by decide) (by decide)).trans rfl)))
            exact ih54 τ58 x61 x65 i59 g63 b62 (iv_wk b66 (by decide)) (by have q := hm54; omega)
  have J52 : ∀ (τ : Sg) (y2 : Int32), Inv τ → Fr MS_X6_readIntoE AS_X6_readIntoE σ τ → IV y2 0 1 → MW p l e { frames := 7, cells := 8, slots := 24, locals := 158 } s m args below meth c (MQ below (QP G (PI fun r τ => Inv τ ∧ Fr MS_X6_readIntoE AS_X6_readIntoE σ τ ∧ IV r 0 1 ∧ (gV τ 12 0 1).toInt = 0)) args s 8 24 (aG G)) 4 G 8 24 52 [some (.ref (G.1 12 0)), some (.ref (G.1 1 j2)), some (.int y2), none] [] τ := by
    intro τ y2 iτ fτ b_y2
    have u68 : IV (gV τ 12 0 1) 0 400 := iτ.1 12 0 1
    refine m_iconst (v := 0) C dX6_readInto_52 (by decide) ?_
    refine m_istore_n (L1 := [some (.ref (G.1 12 0)), some (.ref (G.1 1 j2)), some (.int y2), some (.int 0)]) C dX6_readInto_53 rfl (by decide) rfl rfl ?_
    refine m_widen (c2 := 8) (s2 := 24) (by omega) (by omega) ?_
    exact J54 ((5 - (0 : Int32).toInt).toNat + 1) τ y2 0 iτ fτ b_y2 (iv_wk kc_0 (by decide)) (Nat.lt_succ_self _)
  have J21 : ∀ (n : Nat) (τ : Sg) (y2 : Int32) (y3 : Int32), Inv τ → Fr MS_X6_readIntoE AS_X6_readIntoE σ τ → IV y2 0 1 → IV y3 0 8 → (8 - y3.toInt).toNat < n → MW p l e { frames := 7, cells := 8, slots := 24, locals := 158 } s m args below meth c (MQ below (QP G (PI fun r τ => Inv τ ∧ Fr MS_X6_readIntoE AS_X6_readIntoE σ τ ∧ IV r 0 1 ∧ (gV τ 12 0 1).toInt = 0)) args s 8 24 (aG G)) 4 G (y3.toInt.toNat) (3 * y3.toInt.toNat) 21 [some (.ref (G.1 12 0)), some (.ref (G.1 1 j2)), some (.int y2), some (.int y3)] [] τ := by
    intro n
    induction n with
    | zero => intro τ y2 y3 iτ fτ b_y2 b_y3 hm; exact absurd hm (Nat.not_lt_zero _)
    | succ n ih21 =>
      intro τ y2 y3 iτ fτ b_y2 b_y3 hm21
      have u69 : IV (gV τ 12 0 1) 0 400 := iτ.1 12 0 1
      refine m_iload_n C dX6_readInto_21 rfl rfl ?_
      refine m_if_eq (tgt := 52) C dX6_readInto_22 (by decide) (fun c70 => ?_) (fun c70 => ?_)
      · have f71 : y2.toInt = 0 := by
          have q : _ := c70
          simp only [ti_nle, ti_nlt, ti_le, ti_lt, ti_eq, ti_ne, Classical.not_not, kt_0] at q
          omega
        have b72 : IV y2 0 0 := ⟨by have q1 := b_y2; have q2 := kc_0; omega, by have q1 := b_y2; have q2 := kc_0; omega⟩
        refine m_widen (c2 := 8) (s2 := 24) (by omega) (by omega) ?_
        refine m_sub (L1 := [some (.ref (G.1 12 0)), some (.ref (G.1 1 j2)), some (.int y2), none]) ⟨rfl, ⟨rfl, ⟨rfl, trivial⟩⟩⟩ ?_
        exact J52 τ y2 iτ fτ (iv_wk b72 (by decide))
      · have f73 : y2.toInt ≠ 0 := by
          have q : _ := c70
          simp only [ti_nle, ti_nlt, ti_le, ti_lt, ti_eq, ti_ne, Classical.not_not, kt_0] at q
          omega
        have b74 : IV y2 1 1 := ⟨by have q1 := b_y2; have q2 := kc_0; omega, by have q1 := b_y2; have q2 := kc_0; omega⟩
        refine m_iload_n C dX6_readInto_25 rfl rfl ?_
        refine m_bipush (v := 7) C dX6_readInto_26 (by decide) ?_
        refine m_icmp_gt (tgt := 52) C dX6_readInto_28 (by decide) (fun c75 => ?_) (fun c75 => ?_)
        · have f76 : 7 < y3.toInt := by
            have q : _ := c75
            simp only [ti_nle, ti_nlt, ti_le, ti_lt, ti_eq, ti_ne, Classical.not_not, kt_7] at q
            omega
          have b77 : IV y3 8 8 := ⟨by have q1 := kc_7; have q2 := b_y3; omega, by have q1 := kc_7; have q2 := b_y3; omega⟩
          refine m_widen (c2 := 8) (s2 := 24) (by omega) (by omega) ?_
          refine m_sub (L1 := [some (.ref (G.1 12 0)), some (.ref (G.1 1 j2)), some (.int y2), none]) ⟨rfl, ⟨rfl, ⟨rfl, trivial⟩⟩⟩ ?_
          exact J52 τ y2 iτ fτ (iv_wk b74 (by decide))
        · have f78 : y3.toInt ≤ 7 := by
            have q : _ := c75
            simp only [ti_nle, ti_nlt, ti_le, ti_lt, ti_eq, ti_ne, Classical.not_not, kt_7] at q
            omega
          have b79 : IV y3 0 7 := ⟨by have q1 := b_y3; have q2 := kc_7; omega, by have q1 := b_y3; have q2 := kc_7; omega⟩
          refine m_aload_n C dX6_readInto_31 rfl rfl ?_
          refine s_ldc (w := 1) (tx := "") C rfl (by decide) rfl dX6_readInto_32 ?_
          refine m_callV (n := 1) (ci := 5) (st := []) C (c_X6_isWord l G τ (w := 1) (by decide) iτ ) (by decide) (by decide) rfl rfl rfl q2_89 q2_86 q2_88 q0_7 q1_2 (by decide +kernel) rfl (by decide) ⟨by show (y3.toInt.toNat) + 0 ≤ 8; omega, by show (3 * y3.toInt.toNat) + 0 ≤ 24; omega⟩ rfl (Nat.le_of_ble_eq_true rfl) dX6_readInto_34 ?_
          rintro _ τ80 ⟨x83, rfl, i81, f82, b84⟩
          have g85 : Fr MS_X6_readIntoE AS_X6_readIntoE σ τ80 := Fr.call (fτ) f82 (by decide)
          show MW p l e _ s m args below meth c _ 4 G (y3.toInt.toNat) (3 * y3.toInt.toNat) 37 [some (.ref (G.1 12 0)), some (.ref (G.1 1 j2)), some (.int y2), some (.int y3)] [.int x83] τ80
          refine m_if_eq (tgt := 52) C dX6_readInto_37 (by decide) (fun c87 => ?_) (fun c87 => ?_)
          · have f88 : x83.toInt = 0 := by
              have q : _ := c87
              simp only [ti_nle, ti_nlt, ti_le, ti_lt, ti_eq, ti_ne, Classical.not_not, kt_0] at q
              omega
            have b89 : IV x83 0 0 := ⟨by have q1 := b84; have q2 := kc_0; omega, by have q1 := b84; have q2 := kc_0; omega⟩
            refine m_widen (c2 := 8) (s2 := 24) (by omega) (by omega) ?_
            refine m_sub (L1 := [some (.ref (G.1 12 0)), some (.ref (G.1 1 j2)), some (.int y2), none]) ⟨rfl, ⟨rfl, ⟨rfl, trivial⟩⟩⟩ ?_
            have q90 : (gV τ80 12 0 1).toInt = (gV τ 12 0 1).toInt := congrArg Int32.toInt (show (gV τ80 12 0 1) = (gV τ 12 0 1) from (show gV τ80 12 0 1 = (gV τ 12 0 1) from (f82.1 12 0 (1) (by decide) (by decide)).trans rfl))
            exact J52 τ80 y2 i81 g85 (iv_wk b74 (by decide))
          · have f91 : x83.toInt ≠ 0 := by
              have q : _ := c87
              simp only [ti_nle, ti_nlt, ti_le, ti_lt, ti_eq, ti_ne, Classical.not_not, kt_0] at q
              omega
            have b92 : IV x83 1 1 := ⟨by have q1 := b84; have q2 := kc_0; omega, by have q1 := b84; have q2 := kc_0; omega⟩
            refine m_aload_n C dX6_readInto_40 rfl rfl ?_
            refine m_aload_n C dX6_readInto_41 rfl rfl ?_
            refine m_callV (n := 1) (ci := 5) (st := []) C (c_X6_readPerson l G τ80 (j2 := j2) hj2 i81 ) (by decide) (by decide) rfl rfl rfl q2_154 q2_151 q2_153 q0_11 q1_2 (by decide +kernel) rfl (by decide) ⟨by show (y3.toInt.toNat) + 1 ≤ 8; omega, by show (3 * y3.toInt.toNat) + 3 ≤ 24; omega⟩ rfl (Nat.le_of_ble_eq_true rfl) dX6_readInto_42 ?_
            rintro _ τ93 ⟨x96, rfl, i94, f95, b97⟩
            have g98 : Fr MS_X6_readIntoE AS_X6_readIntoE σ τ93 := Fr.call (g85) f95 (by decide)
            show MW p l e _ s m args below meth c _ 4 G ((y3.toInt.toNat) + 1) ((3 * y3.toInt.toNat) + 3) 45 [some (.ref (G.1 12 0)), some (.ref (G.1 1 j2)), some (.int y2), some (.int y3)] [.int x96] τ93
            refine m_istore_n (L1 := [some (.ref (G.1 12 0)), some (.ref (G.1 1 j2)), some (.int x96), some (.int y3)]) C dX6_readInto_45 rfl (by decide) rfl rfl ?_
            obtain ⟨x100, ex100⟩ : ∃ y : Int32, y = y3 + 1 := ⟨_, rfl⟩
            have tx100 : x100.toInt = y3.toInt + 1 := by rw [ex100, ti_addv b79 kc_1 (by decide), kt_1]
            have b101 : IV x100 1 8 := by rw [ex100]; exact iv_add b79 kc_1 (by decide)
            refine m_iinc (v := x100) (L1 := [some (.ref (G.1 12 0)), some (.ref (G.1 1 j2)), some (.int x96), some (.int x100)]) C dX6_readInto_46 rfl (by rw [ex100]; rfl) (by decide) rfl rfl ?_
            refine m_goto (tgt := 21) C dX6_readInto_49 (by decide) ?_
            refine m_widen (c2 := (x100.toInt.toNat)) (s2 := (3 * x100.toInt.toNat)) (by omega) (by omega) ?_
            have q102 : (gV τ93 12 0 1).toInt = (gV τ 12 0 1).toInt := congrArg Int32.toInt (show (gV τ93 12 0 1) = (gV τ 12 0 1) from (show gV τ93 12 0 1 = (gV τ 12 0 1) from (f95.1 12 0 (1) (by decide) (by decide)).trans (show gV τ80 12 0 1 = (gV τ 12 0 1) from (f82.1 12 0 (1) (by decide) (by decide)).trans rfl)))
            exact ih21 τ93 x96 x100 i94 g98 b97 (iv_wk b101 (by decide)) (by have q := hm21; omega)
  have u103 : IV (gV σ 12 0 1) 0 400 := hI.1 12 0 1
  refine m_aload_n C dX6_readInto_0 rfl rfl ?_
  refine m_callV (n := 0) (ci := 7) (st := []) C (c_X8_clear l G σ (j := j2) hj2  hI ) (by decide) hj2 rfl rfl rfl q2_59 q2_56 q2_57 q2_58 q1_3 (by decide +kernel) rfl (by decide) (by decide) rfl (Nat.le_of_ble_eq_true rfl) dX6_readInto_1 ?_
  rintro _ τ104 ⟨rfl, i105, f106⟩
  have g109 : Fr MS_X6_readIntoE AS_X6_readIntoE σ τ104 := Fr.call (Fr.rf) f106 (by decide)
  show MW p l e _ s m args below meth c _ 4 G 0 0 4 [some (.ref (G.1 12 0)), some (.ref (G.1 1 j2)), none, none] [] τ104
  refine m_aload_n C dX6_readInto_4 rfl rfl ?_
  refine m_iconst (v := 0) C dX6_readInto_5 (by decide) ?_
  refine p_12_5 C q1_45 dX6_readInto_6 ?_
  refine m_tops (fun τ111 eτ111 => ?_)
  have i112 : Inv τ111 := eτ111 ▸ Inv.put i105 (by decide) (iv_wk kc_0 (by decide))
  have f113 : Fr MS_X6_readIntoE AS_X6_readIntoE σ τ111 := eτ111 ▸ Fr.put (g109) (Or.inl (by decide))
  refine m_aload_n C dX6_readInto_9 rfl rfl ?_
  refine m_callV (n := 0) (ci := 5) (st := []) C (c_X6_next l G τ111  i112 ) (by decide) (by decide) rfl rfl rfl q2_63 q2_60 q2_62 q0_3 q1_2 (by decide +kernel) rfl (by decide) (by decide) rfl (Nat.le_of_ble_eq_true rfl) dX6_readInto_10 ?_
  rintro _ τ114 ⟨rfl, i115, f116⟩
  have g119 : Fr MS_X6_readIntoE AS_X6_readIntoE σ τ114 := Fr.call (f113) f116 (by decide)
  show MW p l e _ s m args below meth c _ 4 G 0 0 13 [some (.ref (G.1 12 0)), some (.ref (G.1 1 j2)), none, none] [] τ114
  refine m_aload_n C dX6_readInto_13 rfl rfl ?_
  refine m_aload_n C dX6_readInto_14 rfl rfl ?_
  refine m_callV (n := 1) (ci := 5) (st := []) C (c_X6_readLaw l G τ114 (j2 := j2) hj2 i115 ) (by decide) (by decide) rfl rfl rfl q2_84 q2_81 q2_83 q0_6 q1_2 (by decide +kernel) rfl (by decide) (by decide) rfl (Nat.le_of_ble_eq_true rfl) dX6_readInto_15 ?_
  rintro _ τ121 ⟨x124, rfl, i122, f123, b125⟩
  have g126 : Fr MS_X6_readIntoE AS_X6_readIntoE σ τ121 := Fr.call (g119) f123 (by decide)
  show MW p l e _ s m args below meth c _ 4 G 0 0 18 [some (.ref (G.1 12 0)), some (.ref (G.1 1 j2)), none, none] [.int x124] τ121
  refine m_istore_n (L1 := [some (.ref (G.1 12 0)), some (.ref (G.1 1 j2)), some (.int x124), none]) C dX6_readInto_18 rfl (by decide) rfl rfl ?_
  refine m_iconst (v := 0) C dX6_readInto_19 (by decide) ?_
  refine m_istore_n (L1 := [some (.ref (G.1 12 0)), some (.ref (G.1 1 j2)), some (.int x124), some (.int 0)]) C dX6_readInto_20 rfl (by decide) rfl rfl ?_
  refine m_widen (c2 := ((0 : Int32).toInt.toNat)) (s2 := (3 * (0 : Int32).toInt.toNat)) (by omega) (by omega) ?_
  have q128 : (gV τ121 12 0 1).toInt = (gV σ 12 0 1).toInt := congrArg Int32.toInt (show (gV τ121 12 0 1) = (gV σ 12 0 1) from (show gV τ121 12 0 1 = (gV σ 12 0 1) from (f123.1 12 0 (1) (by decide) (by decide)).trans (show gV τ114 12 0 1 = (gV σ 12 0 1) from (f116.1 12 0 (1) (by decide) (by decide)).trans (show gV τ111 12 0 1 = (gV σ 12 0 1) from gV_put eτ111 (show gV τ104 12 0 1 = (gV σ 12 0 1) from (f106.1 12 0 (1) (by decide) (by decide)).trans rfl)))))
  exact J21 ((8 - (0 : Int32).toInt).toNat + 1) τ121 x124 0 i122 g126 b125 (iv_wk kc_0 (by decide)) (Nat.lt_succ_self _)

abbrev MS_X11_towerE : List (Nat × Nat) := [(0, 6), (1, 0), (1, 1), (1, 2), (1, 3), (1, 9), (1, 10), (1, 11), (12, 1), (12, 2), (12, 3), (12, 4), (12, 5), (12, 6), (12, 7)]
abbrev AS_X11_towerE : List Nat := [2, 3, 4, 5, 6, 99]
set_option maxHeartbeats 4000000 in
set_option maxRecDepth 100000 in
theorem c_X11_towerE (l : Launch) (G : Gt) (σ : Sg) (hI : Inv σ) : Mc l G yX11_tower cX11_tower 1 (some .int) 8 181 8 24 [.ref (G.1 0 0)] σ (PI fun r τ => Inv τ ∧ Fr MS_X11_towerE AS_X11_towerE σ τ ∧ IV r (-2147483648) 2147483647 ∧ (gV τ 12 0 1).toInt = 0) := by
  refine Mc.of (L0 := [some (.ref (G.1 0 0))]) (by decide) (Nat.le_of_ble_eq_true rfl) rfl ?_
  intro p e s m args below meth c C hr hlk
  have C : Cx p s m args c cX11_tower 1 "LeanTower" := C
  have k0 : (0 : Int32).toInt = 0 := by decide
  have k1 : (1 : Int32).toInt = 1 := by decide
  have u1 : IV (gV σ 12 0 1) 0 400 := hI.1 12 0 1
  refine m_aload_n C dX11_tower_0 rfl rfl ?_
  refine g_0_1 C q1_187 dX11_tower_1 ?_
  refine m_aload_n C dX11_tower_4 rfl rfl ?_
  refine g_0_3 C q1_189 dX11_tower_5 ?_
  refine m_callV (n := 1) (ci := 5) (st := []) C (c_X6_readIntoE l G σ (j2 := 1) (by decide) hI ) (by decide) (by decide) rfl rfl rfl q2_55 q2_52 q2_53 q2_54 q1_2 (by decide +kernel) rfl (by decide) (by decide) rfl (Nat.le_of_ble_eq_true rfl) dX11_tower_8 ?_
  rintro _ τ2 ⟨x5, rfl, i3, f4, b6, h8⟩
  have g7 : Fr MS_X11_towerE AS_X11_towerE σ τ2 := Fr.call (Fr.rf) f4 (by decide)
  have u9 : IV (gV τ2 12 0 1) 0 400 := i3.1 12 0 1
  show MW p l e _ s m args below meth c _ 1 G 8 24 11 [some (.ref (G.1 0 0))] [.int x5] τ2
  refine m_if_ne (tgt := 25) C dX11_tower_11 (by decide) (fun c10 => ?_) (fun c10 => ?_)
  · have f11 : x5.toInt ≠ 0 := by
      have q : _ := c10
      simp only [ti_nle, ti_nlt, ti_le, ti_lt, ti_eq, ti_ne, Classical.not_not, kt_0] at q
      omega
    have b12 : IV x5 1 1 := ⟨by have q1 := b6; have q2 := kc_0; omega, by have q1 := b6; have q2 := kc_0; omega⟩
    refine m_aload_n C dX11_tower_25 rfl rfl ?_
    refine g_0_2 C q1_188 dX11_tower_26 ?_
    refine m_aload_n C dX11_tower_29 rfl rfl ?_
    refine g_0_3 C q1_189 dX11_tower_30 ?_
    refine m_callV (n := 1) (ci := 7) (st := []) C (c_X8_takeFrom l G τ2 (j := 0) (by decide) (j2 := 1) (by decide) i3 ) (by decide) (by decide) rfl rfl rfl q3_9 q3_6 q3_7 q3_8 q1_3 (by decide +kernel) rfl (by decide) (by decide) rfl (Nat.le_of_ble_eq_true rfl) dX11_tower_33 ?_
    rintro _ τ13 ⟨rfl, i14, f15⟩
    have g18 : Fr MS_X11_towerE AS_X11_towerE σ τ13 := Fr.call (g7) f15 (by decide)
    show MW p l e _ s m args below meth c _ 1 G 8 24 36 [some (.ref (G.1 0 0))] [] τ13
    refine m_aload_n C dX11_tower_36 rfl rfl ?_
    refine m_iconst (v := 0) C dX11_tower_37 (by decide) ?_
    refine p_0_6 C q1_192 dX11_tower_38 ?_
    refine m_tops (fun τ20 eτ20 => ?_)
    have i21 : Inv τ20 := eτ20 ▸ Inv.put i14 (by decide) (iv_wk kc_0 (by decide))
    have f22 : Fr MS_X11_towerE AS_X11_towerE σ τ20 := eτ20 ▸ Fr.put (g18) (Or.inl (by decide))
    refine m_aload_n C dX11_tower_41 rfl rfl ?_
    refine g_0_2 C q1_188 dX11_tower_42 ?_
    refine g_1_2 C (by decide) q1_82 dX11_tower_45 ?_
    refine m_topi (fun x23 ex23 => ?_)
    have b24 : IV x23 0 7 := by rw [ex23]; exact i21.1 1 0 2
    have q25 : (gV τ20 12 0 1).toInt = (gV τ2 12 0 1).toInt := congrArg Int32.toInt (show (gV τ20 12 0 1) = (gV τ2 12 0 1) from (show gV τ20 12 0 1 = (gV τ2 12 0 1) from gV_put eτ20 (show gV τ13 12 0 1 = (gV τ2 12 0 1) from (f15.1 12 0 (1) (by decide) (by decide)).trans rfl)))
    exact m_iret C hr hlk (by decide) (by decide) dX11_tower_48 ⟨_, rfl, i21, f22, (iv_wk b24 (by decide)), (by omega)⟩
  · have f26 : x5.toInt = 0 := by
      have q : _ := c10
      simp only [ti_nle, ti_nlt, ti_le, ti_lt, ti_eq, ti_ne, Classical.not_not, kt_0] at q
      omega
    have b27 : IV x5 0 0 := ⟨by have q1 := b6; have q2 := kc_0; omega, by have q1 := b6; have q2 := kc_0; omega⟩
    refine m_ldc (v := (-1000100)) C dX11_tower_14 q3_5 ?_
    refine m_aload_n C dX11_tower_16 rfl rfl ?_
    refine g_0_1 C q1_187 dX11_tower_17 ?_
    refine g_12_3 C q1_42 dX11_tower_20 ?_
    refine m_topi (fun x28 ex28 => ?_)
    refine m_isub C dX11_tower_23 ?_
    refine m_topi (fun x29 ex29 => ?_)
    exact m_iret C hr hlk (by decide) (by decide) dX11_tower_24 ⟨_, rfl, i3, g7, (iv_any x29), (by omega)⟩

abbrev MS_X12_towerE : List (Nat × Nat) := [(22, 6), (22, 7), (22, 9), (22, 11), (22, 12), (22, 13), (22, 15), (22, 16)]
abbrev AS_X12_towerE : List Nat := [23]
set_option maxHeartbeats 4000000 in
set_option maxRecDepth 100000 in
theorem c_X12_towerE (l : Launch) (G : Gt) (σ : Sg) (hI : Inv σ) : Mc l G yX12_tower cX12_tower 2 (some .int) 4 92 0 0 [.ref (G.1 22 0)] σ (PI fun r τ => Inv τ ∧ Fr MS_X12_towerE AS_X12_towerE σ τ ∧ IV r (-2147483648) 2147483647 ∧ (gV τ 22 0 6).toInt = 0) := by
  refine Mc.of (L0 := [some (.ref (G.1 22 0)), none]) (by decide) (Nat.le_of_ble_eq_true rfl) rfl ?_
  intro p e s m args below meth c C hr hlk
  have C : Cx p s m args c cX12_tower 2 "LeanTowerModel" := C
  have k0 : (0 : Int32).toInt = 0 := by decide
  have k1 : (1 : Int32).toInt = 1 := by decide
  have J131 : ∀ (τ : Sg) (z0 : Int32), Inv τ → Fr MS_X12_towerE AS_X12_towerE σ τ → IV z0 (-2147483648) 2147483647 → (PF τ) → ((z0.toInt = 0 → (gV τ 22 0 16).toInt = 0)) → MW p l e { frames := 4, cells := 0, slots := 0, locals := 92 } s m args below meth c (MQ below (QP G (PI fun r τ => Inv τ ∧ Fr MS_X12_towerE AS_X12_towerE σ τ ∧ IV r (-2147483648) 2147483647 ∧ (gV τ 22 0 6).toInt = 0)) args s 0 0 (aG G)) 2 G 0 0 131 [some (.ref (G.1 22 0)), none] [.int z0, .ref (G.1 22 0)] τ := by
    intro τ z0 iτ fτ b_z0 v_PF n1
    have u2 : IV (gV τ 23 0 152) 0 7 := iτ.1 23 0 152
    have u3 : IV (gV τ 22 0 11) 0 400 := iτ.1 22 0 11
    have u4 : IV (gV τ 22 0 6) 0 400 := iτ.1 22 0 6
    have u5 : IV (gV τ 23 0 188) 0 4 := iτ.1 23 0 188
    refine p_22_16 C q4_132 dX12_tower_131 ?_
    refine m_tops (fun τ6 eτ6 => ?_)
    have i7 : Inv τ6 := eτ6 ▸ Inv.putF iτ (by decide) rfl
    have f8 : Fr MS_X12_towerE AS_X12_towerE σ τ6 := eτ6 ▸ Fr.put (fτ) (Or.inl (by decide))
    have v9 : PF τ6 := v_PF.fault eτ6 (by omega)
    refine m_aload_n C dX12_tower_134 rfl rfl ?_
    refine m_iconst (v := 0) C dX12_tower_135 (by decide) ?_
    refine p_22_6 C q4_122 dX12_tower_136 ?_
    refine m_tops (fun τ10 eτ10 => ?_)
    have i11 : Inv τ10 := eτ10 ▸ Inv.put i7 (by decide) (iv_wk kc_0 (by decide))
    have f12 : Fr MS_X12_towerE AS_X12_towerE σ τ10 := eτ10 ▸ Fr.put (f8) (Or.inl (by decide))
    have v13 : PF τ10 := v9.put eτ10 (Or.inr (by decide)) (Or.inl (by decide))
    refine m_aload_n C dX12_tower_139 rfl rfl ?_
    refine g_22_16 C q4_132 dX12_tower_140 ?_
    refine m_eqs (w := z0) (show gV τ10 22 0 16 = z0 from gV_put eτ10 (show gV τ6 22 0 16 = z0 from gV_put eτ6 (gV_self _ _ _ _ _))) ?_
    refine m_if_eq (tgt := 162) C dX12_tower_143 (by decide) (fun c14 => ?_) (fun c14 => ?_)
    · have f15 : z0.toInt = 0 := by
        have q : _ := c14
        simp only [ti_nle, ti_nlt, ti_le, ti_lt, ti_eq, ti_ne, Classical.not_not, kt_0] at q
        omega
      have b16 : IV z0 0 0 := ⟨by have q1 := b_z0; have q2 := kc_0; omega, by have q1 := b_z0; have q2 := kc_0; omega⟩
      refine m_aload_n C dX12_tower_162 rfl rfl ?_
      refine m_sipush (v := 150) C dX12_tower_163 (by decide) ?_
      refine m_iconst (v := 0) C dX12_tower_166 (by decide) ?_
      have q17 : (gV τ10 23 0 152).toInt = (gV τ 23 0 152).toInt := congrArg Int32.toInt (show (gV τ10 23 0 152) = (gV τ 23 0 152) from (show gV τ10 23 0 152 = (gV τ 23 0 152) from gV_put eτ10 (show gV τ6 23 0 152 = (gV τ 23 0 152) from gV_put eτ6 rfl)))
      have q18 : (gV τ10 22 0 11).toInt = (gV τ 22 0 11).toInt := congrArg Int32.toInt (show (gV τ10 22 0 11) = (gV τ 22 0 11) from (show gV τ10 22 0 11 = (gV τ 22 0 11) from gV_put eτ10 (show gV τ6 22 0 11 = (gV τ 22 0 11) from gV_put eτ6 rfl)))
      have q19 : (gV τ10 23 0 188).toInt = (gV τ 23 0 188).toInt := congrArg Int32.toInt (show (gV τ10 23 0 188) = (gV τ 23 0 188) from (show gV τ10 23 0 188 = (gV τ 23 0 188) from gV_put eτ10 (show gV τ6 23 0 188 = (gV τ 23 0 188) from gV_put eτ6 rfl)))
      have q20 : (gV τ10 22 0 16).toInt = z0.toInt := congrArg Int32.toInt (show (gV τ10 22 0 16) = z0 from (show gV τ10 22 0 16 = z0 from gV_put eτ10 (show gV τ6 22 0 16 = z0 from gV_put eτ6 (gV_self _ _ _ _ _))))
      have q21 : (gV τ10 22 0 6).toInt = 0 := (congrArg Int32.toInt (show (gV τ10 22 0 6) = 0 from (show gV τ10 22 0 6 = 0 from gV_put eτ10 (gV_self _ _ _ _ _)))).trans kt_0
      have q22 := kt_150
      have q23 := kt_0
      refine m_callV (n := 2) (ci := 11) (st := []) C (c_X12_copyAll l G τ10 (150) (0) i11 (iv_wk kc_150 (by decide)) (iv_wk kc_0 (by decide)) (by omega) (by omega) (by omega) (Or.inr (v13 (by omega)))) (by decide) (by decide) rfl rfl rfl q5_38 q5_35 q5_37 q0_35 q1_7 (by decide +kernel) rfl (by decide) (by decide) rfl (Nat.le_of_ble_eq_true rfl) dX12_tower_167 ?_
      rintro _ τ24 ⟨rfl, i25, f26, h30⟩
      have g29 : Fr MS_X12_towerE AS_X12_towerE σ τ24 := Fr.call (f12) f26 (by decide)
      have u32 : IV (gV τ24 23 0 152) 0 7 := i25.1 23 0 152
      have u33 : IV (gV τ24 23 0 188) 0 4 := i25.1 23 0 188
      have q34 : (gV τ24 22 0 11).toInt = (gV τ 22 0 11).toInt := congrArg Int32.toInt (show (gV τ24 22 0 11) = (gV τ 22 0 11) from (show gV τ24 22 0 11 = (gV τ 22 0 11) from (f26.1 22 0 (11) (by decide) (by decide)).trans (show gV τ10 22 0 11 = (gV τ 22 0 11) from gV_put eτ10 (show gV τ6 22 0 11 = (gV τ 22 0 11) from gV_put eτ6 rfl))))
      have q35 : (gV τ24 22 0 16).toInt = z0.toInt := congrArg Int32.toInt (show (gV τ24 22 0 16) = z0 from (show gV τ24 22 0 16 = z0 from (f26.1 22 0 (16) (by decide) (by decide)).trans (show gV τ10 22 0 16 = z0 from gV_put eτ10 (show gV τ6 22 0 16 = z0 from gV_put eτ6 (gV_self _ _ _ _ _)))))
      have q36 : (gV τ24 22 0 6).toInt = 0 := (congrArg Int32.toInt (show (gV τ24 22 0 6) = 0 from (show gV τ24 22 0 6 = 0 from (f26.1 22 0 (6) (by decide) (by decide)).trans (show gV τ10 22 0 6 = 0 from gV_put eτ10 (gV_self _ _ _ _ _))))).trans kt_0
      show MW p l e _ s m args below meth c _ 2 G 0 0 170 [some (.ref (G.1 22 0)), none] [] τ24
      refine m_aload_n C dX12_tower_170 rfl rfl ?_
      refine m_iconst (v := 0) C dX12_tower_171 (by decide) ?_
      refine p_22_9 C q4_125 dX12_tower_172 ?_
      refine m_tops (fun τ37 eτ37 => ?_)
      have i38 : Inv τ37 := eτ37 ▸ Inv.put i25 (by decide) (iv_wk kc_0 (by decide))
      have f39 : Fr MS_X12_towerE AS_X12_towerE σ τ37 := eτ37 ▸ Fr.put (g29) (Or.inl (by decide))
      refine m_aload_n C dX12_tower_175 rfl rfl ?_
      refine g_22_0 C q4_116 dX12_tower_176 ?_
      refine m_iconst (v := 2) C dX12_tower_179 (by decide) ?_
      refine al_23 C kc_2 (by decide) kn_2 dX12_tower_180 ?_
      refine m_topi (fun x40 ex40 => ?_)
      have b41 : IV x40 0 7 := by rw [ex40]; exact i38.1 23 0 2
      have q42 : (gV τ37 22 0 11).toInt = (gV τ 22 0 11).toInt := congrArg Int32.toInt (show (gV τ37 22 0 11) = (gV τ 22 0 11) from (show gV τ37 22 0 11 = (gV τ 22 0 11) from gV_put eτ37 (show gV τ24 22 0 11 = (gV τ 22 0 11) from (f26.1 22 0 (11) (by decide) (by decide)).trans (show gV τ10 22 0 11 = (gV τ 22 0 11) from gV_put eτ10 (show gV τ6 22 0 11 = (gV τ 22 0 11) from gV_put eτ6 rfl)))))
      have q43 : (gV τ37 22 0 16).toInt = z0.toInt := congrArg Int32.toInt (show (gV τ37 22 0 16) = z0 from (show gV τ37 22 0 16 = z0 from gV_put eτ37 (show gV τ24 22 0 16 = z0 from (f26.1 22 0 (16) (by decide) (by decide)).trans (show gV τ10 22 0 16 = z0 from gV_put eτ10 (show gV τ6 22 0 16 = z0 from gV_put eτ6 (gV_self _ _ _ _ _))))))
      have q44 : (gV τ37 22 0 6).toInt = 0 := (congrArg Int32.toInt (show (gV τ37 22 0 6) = 0 from (show gV τ37 22 0 6 = 0 from gV_put eτ37 (show gV τ24 22 0 6 = 0 from (f26.1 22 0 (6) (by decide) (by decide)).trans (show gV τ10 22 0 6 = 0 from gV_put eτ10 (gV_self _ _ _ _ _)))))).trans kt_0
      have q45 : (gV τ37 23 0 152).toInt = (gV τ24 23 0 152).toInt := congrArg Int32.toInt (show (gV τ37 23 0 152) = (gV τ24 23 0 152) from (show gV τ37 23 0 152 = (gV τ24 23 0 152) from gV_put eτ37 rfl))
      have q46 : (gV τ37 23 0 188).toInt = (gV τ24 23 0 188).toInt := congrArg Int32.toInt (show (gV τ37 23 0 188) = (gV τ24 23 0 188) from (show gV τ37 23 0 188 = (gV τ24 23 0 188) from gV_put eτ37 rfl))
      exact m_iret C hr hlk (by decide) (by decide) dX12_tower_181 ⟨_, rfl, i38, f39, (iv_wk b41 (by decide)), (by omega)⟩
    · have f47 : z0.toInt ≠ 0 := by
        have q : _ := c14
        simp only [ti_nle, ti_nlt, ti_le, ti_lt, ti_eq, ti_ne, Classical.not_not, kt_0] at q
        omega
      refine m_aload_n C dX12_tower_146 rfl rfl ?_
      refine m_aload_n C dX12_tower_147 rfl rfl ?_
      refine g_22_16 C q4_132 dX12_tower_148 ?_
      refine m_eqs (w := z0) (show gV τ10 22 0 16 = z0 from gV_put eτ10 (show gV τ6 22 0 16 = z0 from gV_put eτ6 (gV_self _ _ _ _ _))) ?_
      refine p_22_7 C q4_123 dX12_tower_151 ?_
      refine m_tops (fun τ48 eτ48 => ?_)
      have i49 : Inv τ48 := eτ48 ▸ Inv.putF i11 (by decide) rfl
      have f50 : Fr MS_X12_towerE AS_X12_towerE σ τ48 := eτ48 ▸ Fr.put (f12) (Or.inl (by decide))
      have v51 : PF τ48 := v13.put eτ48 (Or.inr (by decide)) (Or.inl (by decide))
      refine m_ldc (v := (-1000100)) C dX12_tower_154 q5_34 ?_
      refine m_aload_n C dX12_tower_156 rfl rfl ?_
      refine g_22_12 C q4_128 dX12_tower_157 ?_
      refine m_topi (fun x52 ex52 => ?_)
      refine m_isub C dX12_tower_160 ?_
      refine m_topi (fun x53 ex53 => ?_)
      have q54 : (gV τ48 23 0 152).toInt = (gV τ 23 0 152).toInt := congrArg Int32.toInt (show (gV τ48 23 0 152) = (gV τ 23 0 152) from (show gV τ48 23 0 152 = (gV τ 23 0 152) from gV_put eτ48 (show gV τ10 23 0 152 = (gV τ 23 0 152) from gV_put eτ10 (show gV τ6 23 0 152 = (gV τ 23 0 152) from gV_put eτ6 rfl))))
      have q55 : (gV τ48 22 0 11).toInt = (gV τ 22 0 11).toInt := congrArg Int32.toInt (show (gV τ48 22 0 11) = (gV τ 22 0 11) from (show gV τ48 22 0 11 = (gV τ 22 0 11) from gV_put eτ48 (show gV τ10 22 0 11 = (gV τ 22 0 11) from gV_put eτ10 (show gV τ6 22 0 11 = (gV τ 22 0 11) from gV_put eτ6 rfl))))
      have q56 : (gV τ48 23 0 188).toInt = (gV τ 23 0 188).toInt := congrArg Int32.toInt (show (gV τ48 23 0 188) = (gV τ 23 0 188) from (show gV τ48 23 0 188 = (gV τ 23 0 188) from gV_put eτ48 (show gV τ10 23 0 188 = (gV τ 23 0 188) from gV_put eτ10 (show gV τ6 23 0 188 = (gV τ 23 0 188) from gV_put eτ6 rfl))))
      have q57 : (gV τ48 22 0 16).toInt = z0.toInt := congrArg Int32.toInt (show (gV τ48 22 0 16) = z0 from (show gV τ48 22 0 16 = z0 from gV_put eτ48 (show gV τ10 22 0 16 = z0 from gV_put eτ10 (show gV τ6 22 0 16 = z0 from gV_put eτ6 (gV_self _ _ _ _ _)))))
      have q58 : (gV τ48 22 0 6).toInt = 0 := (congrArg Int32.toInt (show (gV τ48 22 0 6) = 0 from (show gV τ48 22 0 6 = 0 from gV_put eτ48 (show gV τ10 22 0 6 = 0 from gV_put eτ10 (gV_self _ _ _ _ _))))).trans kt_0
      exact m_iret C hr hlk (by decide) (by decide) dX12_tower_161 ⟨_, rfl, i49, f50, (iv_any x53), (by omega)⟩
  have J107 : ∀ (τ : Sg), Inv τ → Fr MS_X12_towerE AS_X12_towerE σ τ → (PF τ) → MW p l e { frames := 4, cells := 0, slots := 0, locals := 92 } s m args below meth c (MQ below (QP G (PI fun r τ => Inv τ ∧ Fr MS_X12_towerE AS_X12_towerE σ τ ∧ IV r (-2147483648) 2147483647 ∧ (gV τ 22 0 6).toInt = 0)) args s 0 0 (aG G)) 2 G 0 0 107 [some (.ref (G.1 22 0)), none] [] τ := by
    intro τ iτ fτ v_PF
    have u59 : IV (gV τ 23 0 152) 0 7 := iτ.1 23 0 152
    have u60 : IV (gV τ 22 0 11) 0 400 := iτ.1 22 0 11
    have u61 : IV (gV τ 22 0 6) 0 400 := iτ.1 22 0 6
    have u62 : IV (gV τ 23 0 188) 0 4 := iτ.1 23 0 188
    refine m_aload_n C dX12_tower_107 rfl rfl ?_
    refine m_aload_n C dX12_tower_108 rfl rfl ?_
    refine g_22_16 C q4_132 dX12_tower_109 ?_
    refine m_eqs (w := (gV τ 22 0 16)) rfl ?_
    refine m_if_ne (tgt := 127) C dX12_tower_112 (by decide) (fun c63 => ?_) (fun c63 => ?_)
    · have f64 : (gV τ 22 0 16).toInt ≠ 0 := by
        have q : _ := c63
        simp only [ti_nle, ti_nlt, ti_le, ti_lt, ti_eq, ti_ne, Classical.not_not, kt_0] at q
        omega
      refine m_aload_n C dX12_tower_127 rfl rfl ?_
      refine g_22_16 C q4_132 dX12_tower_128 ?_
      refine m_eqs (w := (gV τ 22 0 16)) rfl ?_
      exact J131 τ (gV τ 22 0 16) iτ fτ (iv_any (gV τ 22 0 16)) v_PF (by omega)
    · have f65 : (gV τ 22 0 16).toInt = 0 := by
        have q : _ := c63
        simp only [ti_nle, ti_nlt, ti_le, ti_lt, ti_eq, ti_ne, Classical.not_not, kt_0] at q
        omega
      have b66 : IV (gV τ 22 0 16) 0 0 := ⟨by have q1 := (iv_any (gV τ 22 0 16)); have q2 := kc_0; omega, by have q1 := (iv_any (gV τ 22 0 16)); have q2 := kc_0; omega⟩
      refine m_aload_n C dX12_tower_115 rfl rfl ?_
      refine g_22_13 C q4_129 dX12_tower_116 ?_
      refine m_topi (fun x67 ex67 => ?_)
      refine m_iconst (v := 4) C dX12_tower_119 (by decide) ?_
      refine m_icmp_eq (tgt := 127) C dX12_tower_120 (by decide) (fun c68 => ?_) (fun c68 => ?_)
      · have f69 : x67.toInt = 4 := by
          have q : _ := c68
          simp only [ti_nle, ti_nlt, ti_le, ti_lt, ti_eq, ti_ne, Classical.not_not, kt_4] at q
          omega
        have b70 : IV x67 4 4 := ⟨by have q1 := (iv_any x67); have q2 := kc_4; omega, by have q1 := (iv_any x67); have q2 := kc_4; omega⟩
        refine m_aload_n C dX12_tower_127 rfl rfl ?_
        refine g_22_16 C q4_132 dX12_tower_128 ?_
        refine m_eqs (w := (gV τ 22 0 16)) rfl ?_
        exact J131 τ (gV τ 22 0 16) iτ fτ (iv_wk b66 (by decide)) v_PF (by omega)
      · have f71 : x67.toInt ≠ 4 := by
          have q : _ := c68
          simp only [ti_nle, ti_nlt, ti_le, ti_lt, ti_eq, ti_ne, Classical.not_not, kt_4] at q
          omega
        refine m_iconst (v := 1) C dX12_tower_123 (by decide) ?_
        refine m_goto (tgt := 131) C dX12_tower_124 (by decide) ?_
        exact J131 τ 1 iτ fτ (iv_wk kc_1 (by decide)) v_PF (by omega)
  have J75 : ∀ (n : Nat) (τ : Sg), Inv τ → Fr MS_X12_towerE AS_X12_towerE σ τ → (PF τ) → ((gV τ 22 0 11).toInt ≤ (gV τ 22 0 6).toInt) → (2 * (5 - (gV τ 23 0 188).toInt) + 1 - min 1 (max (gV τ 22 0 16).toInt (-(gV τ 22 0 16).toInt))).toNat < n → MW p l e { frames := 4, cells := 0, slots := 0, locals := 92 } s m args below meth c (MQ below (QP G (PI fun r τ => Inv τ ∧ Fr MS_X12_towerE AS_X12_towerE σ τ ∧ IV r (-2147483648) 2147483647 ∧ (gV τ 22 0 6).toInt = 0)) args s 0 0 (aG G)) 2 G 0 0 75 [some (.ref (G.1 22 0)), none] [] τ := by
    intro n
    induction n with
    | zero => intro τ iτ fτ v_PF n72 hm; exact absurd hm (Nat.not_lt_zero _)
    | succ n ih75 =>
      intro τ iτ fτ v_PF n72 hm75
      have u73 : IV (gV τ 23 0 152) 0 7 := iτ.1 23 0 152
      have u74 : IV (gV τ 22 0 11) 0 400 := iτ.1 22 0 11
      have u75 : IV (gV τ 22 0 6) 0 400 := iτ.1 22 0 6
      have u76 : IV (gV τ 23 0 188) 0 4 := iτ.1 23 0 188
      refine m_aload_n C dX12_tower_75 rfl rfl ?_
      refine g_22_16 C q4_132 dX12_tower_76 ?_
      refine m_eqs (w := (gV τ 22 0 16)) rfl ?_
      refine m_if_ne (tgt := 107) C dX12_tower_79 (by decide) (fun c77 => ?_) (fun c77 => ?_)
      · have f78 : (gV τ 22 0 16).toInt ≠ 0 := by
          have q : _ := c77
          simp only [ti_nle, ti_nlt, ti_le, ti_lt, ti_eq, ti_ne, Classical.not_not, kt_0] at q
          omega
        exact J107 τ iτ fτ v_PF
      · have f79 : (gV τ 22 0 16).toInt = 0 := by
          have q : _ := c77
          simp only [ti_nle, ti_nlt, ti_le, ti_lt, ti_eq, ti_ne, Classical.not_not, kt_0] at q
          omega
        have b80 : IV (gV τ 22 0 16) 0 0 := ⟨by have q1 := (iv_any (gV τ 22 0 16)); have q2 := kc_0; omega, by have q1 := (iv_any (gV τ 22 0 16)); have q2 := kc_0; omega⟩
        refine m_aload_n C dX12_tower_82 rfl rfl ?_
        refine g_22_13 C q4_129 dX12_tower_83 ?_
        refine m_topi (fun x81 ex81 => ?_)
        refine m_if_ne (tgt := 107) C dX12_tower_86 (by decide) (fun c82 => ?_) (fun c82 => ?_)
        · have f83 : x81.toInt ≠ 0 := by
            have q : _ := c82
            simp only [ti_nle, ti_nlt, ti_le, ti_lt, ti_eq, ti_ne, Classical.not_not, kt_0] at q
            omega
          exact J107 τ iτ fτ v_PF
        · have f84 : x81.toInt = 0 := by
            have q : _ := c82
            simp only [ti_nle, ti_nlt, ti_le, ti_lt, ti_eq, ti_ne, Classical.not_not, kt_0] at q
            omega
          have b85 : IV x81 0 0 := ⟨by have q1 := (iv_any x81); have q2 := kc_0; omega, by have q1 := (iv_any x81); have q2 := kc_0; omega⟩
          refine m_aload_n C dX12_tower_89 rfl rfl ?_
          refine g_22_14 C q4_130 dX12_tower_90 ?_
          refine m_topl (fun w86 ew86 => ?_)
          refine m_ldc2 (v := 20594117) C dX12_tower_93 q5_29 ?_
          refine m_lcmp C dX12_tower_96 ?_
          refine m_topi (fun x87 ex87 => ?_)
          have b88 : IV x87 (-1) 1 := by rw [ex87]; rcases lgc w86 20594117 with q | q | q <;> omega
          have f89 := lgc w86 20594117
          rw [← ex87] at f89
          have f91 := kl_20594117
          refine m_if_ne (tgt := 107) C dX12_tower_97 (by decide) (fun c92 => ?_) (fun c92 => ?_)
          · have f93 : x87.toInt ≠ 0 := by
              have q : _ := c92
              simp only [ti_nle, ti_nlt, ti_le, ti_lt, ti_eq, ti_ne, Classical.not_not, kt_0] at q
              omega
            exact J107 τ iτ fτ v_PF
          · have f94 : x87.toInt = 0 := by
              have q : _ := c92
              simp only [ti_nle, ti_nlt, ti_le, ti_lt, ti_eq, ti_ne, Classical.not_not, kt_0] at q
              omega
            have b95 : IV x87 0 0 := ⟨by have q1 := b88; have q2 := kc_0; omega, by have q1 := b88; have q2 := kc_0; omega⟩
            refine m_aload_n C dX12_tower_100 rfl rfl ?_
            refine m_callV (n := 0) (ci := 11) (st := []) C (c_X12_takeStone l G τ  iτ (by omega) (by omega) (v_PF (by omega))) (by decide) (by decide) rfl rfl rfl q5_33 q5_30 q5_32 q0_34 q1_7 (by decide +kernel) rfl (by decide) (by decide) rfl (Nat.le_of_ble_eq_true rfl) dX12_tower_101 ?_
            rintro _ τ96 ⟨rfl, i97, f98, h102⟩
            have g101 : Fr MS_X12_towerE AS_X12_towerE σ τ96 := Fr.call (fτ) f98 (by decide)
            have v103 : PF τ96 := (fun _ => h102.2.1)
            have u104 : IV (gV τ96 23 0 152) 0 7 := i97.1 23 0 152
            have u105 : IV (gV τ96 22 0 11) 0 400 := i97.1 22 0 11
            have u106 : IV (gV τ96 23 0 188) 0 4 := i97.1 23 0 188
            have q107 : (gV τ96 22 0 6).toInt = (gV τ 22 0 6).toInt := congrArg Int32.toInt (show (gV τ96 22 0 6) = (gV τ 22 0 6) from (show gV τ96 22 0 6 = (gV τ 22 0 6) from (f98.1 22 0 (6) (by decide) (by decide)).trans rfl))
            show MW p l e _ s m args below meth c _ 2 G 0 0 104 [some (.ref (G.1 22 0)), none] [] τ96
            refine m_goto (tgt := 75) C dX12_tower_104 (by decide) ?_
            exact ih75 τ96 i97 g101 v103 (by omega) (by have q := hm75; omega)
  have J43 : ∀ (n : Nat) (τ : Sg), Inv τ → Fr MS_X12_towerE AS_X12_towerE σ τ → (PF τ) → ((gV τ 22 0 11).toInt ≤ (gV τ 22 0 6).toInt) → (2 * (8 - (gV τ 23 0 152).toInt) + 1 - min 1 (max (gV τ 22 0 16).toInt (-(gV τ 22 0 16).toInt))).toNat < n → MW p l e { frames := 4, cells := 0, slots := 0, locals := 92 } s m args below meth c (MQ below (QP G (PI fun r τ => Inv τ ∧ Fr MS_X12_towerE AS_X12_towerE σ τ ∧ IV r (-2147483648) 2147483647 ∧ (gV τ 22 0 6).toInt = 0)) args s 0 0 (aG G)) 2 G 0 0 43 [some (.ref (G.1 22 0)), none] [] τ := by
    intro n
    induction n with
    | zero => intro τ iτ fτ v_PF n108 hm; exact absurd hm (Nat.not_lt_zero _)
    | succ n ih43 =>
      intro τ iτ fτ v_PF n108 hm43
      have u109 : IV (gV τ 23 0 152) 0 7 := iτ.1 23 0 152
      have u110 : IV (gV τ 22 0 11) 0 400 := iτ.1 22 0 11
      have u111 : IV (gV τ 22 0 6) 0 400 := iτ.1 22 0 6
      have u112 : IV (gV τ 23 0 188) 0 4 := iτ.1 23 0 188
      refine m_aload_n C dX12_tower_43 rfl rfl ?_
      refine g_22_16 C q4_132 dX12_tower_44 ?_
      refine m_eqs (w := (gV τ 22 0 16)) rfl ?_
      refine m_if_ne (tgt := 75) C dX12_tower_47 (by decide) (fun c113 => ?_) (fun c113 => ?_)
      · have f114 : (gV τ 22 0 16).toInt ≠ 0 := by
          have q : _ := c113
          simp only [ti_nle, ti_nlt, ti_le, ti_lt, ti_eq, ti_ne, Classical.not_not, kt_0] at q
          omega
        exact J75 ((2 * (5 - (gV τ 23 0 188).toInt) + 1 - min 1 (max (gV τ 22 0 16).toInt (-(gV τ 22 0 16).toInt))).toNat + 1) τ iτ fτ v_PF (by omega) (Nat.lt_succ_self _)
      · have f115 : (gV τ 22 0 16).toInt = 0 := by
          have q : _ := c113
          simp only [ti_nle, ti_nlt, ti_le, ti_lt, ti_eq, ti_ne, Classical.not_not, kt_0] at q
          omega
        have b116 : IV (gV τ 22 0 16) 0 0 := ⟨by have q1 := (iv_any (gV τ 22 0 16)); have q2 := kc_0; omega, by have q1 := (iv_any (gV τ 22 0 16)); have q2 := kc_0; omega⟩
        refine m_aload_n C dX12_tower_50 rfl rfl ?_
        refine g_22_13 C q4_129 dX12_tower_51 ?_
        refine m_topi (fun x117 ex117 => ?_)
        refine m_if_ne (tgt := 75) C dX12_tower_54 (by decide) (fun c118 => ?_) (fun c118 => ?_)
        · have f119 : x117.toInt ≠ 0 := by
            have q : _ := c118
            simp only [ti_nle, ti_nlt, ti_le, ti_lt, ti_eq, ti_ne, Classical.not_not, kt_0] at q
            omega
          exact J75 ((2 * (5 - (gV τ 23 0 188).toInt) + 1 - min 1 (max (gV τ 22 0 16).toInt (-(gV τ 22 0 16).toInt))).toNat + 1) τ iτ fτ v_PF (by omega) (Nat.lt_succ_self _)
        · have f120 : x117.toInt = 0 := by
            have q : _ := c118
            simp only [ti_nle, ti_nlt, ti_le, ti_lt, ti_eq, ti_ne, Classical.not_not, kt_0] at q
            omega
          have b121 : IV x117 0 0 := ⟨by have q1 := (iv_any x117); have q2 := kc_0; omega, by have q1 := (iv_any x117); have q2 := kc_0; omega⟩
          refine m_aload_n C dX12_tower_57 rfl rfl ?_
          refine g_22_14 C q4_130 dX12_tower_58 ?_
          refine m_topl (fun w122 ew122 => ?_)
          refine m_ldc2 (v := 542723566) C dX12_tower_61 q5_16 ?_
          refine m_lcmp C dX12_tower_64 ?_
          refine m_topi (fun x123 ex123 => ?_)
          have b124 : IV x123 (-1) 1 := by rw [ex123]; rcases lgc w122 542723566 with q | q | q <;> omega
          have f125 := lgc w122 542723566
          rw [← ex123] at f125
          have f127 := kl_542723566
          refine m_if_ne (tgt := 75) C dX12_tower_65 (by decide) (fun c128 => ?_) (fun c128 => ?_)
          · have f129 : x123.toInt ≠ 0 := by
              have q : _ := c128
              simp only [ti_nle, ti_nlt, ti_le, ti_lt, ti_eq, ti_ne, Classical.not_not, kt_0] at q
              omega
            exact J75 ((2 * (5 - (gV τ 23 0 188).toInt) + 1 - min 1 (max (gV τ 22 0 16).toInt (-(gV τ 22 0 16).toInt))).toNat + 1) τ iτ fτ v_PF (by omega) (Nat.lt_succ_self _)
          · have f130 : x123.toInt = 0 := by
              have q : _ := c128
              simp only [ti_nle, ti_nlt, ti_le, ti_lt, ti_eq, ti_ne, Classical.not_not, kt_0] at q
              omega
            have b131 : IV x123 0 0 := ⟨by have q1 := b124; have q2 := kc_0; omega, by have q1 := b124; have q2 := kc_0; omega⟩
            refine m_aload_n C dX12_tower_68 rfl rfl ?_
            refine m_callV (n := 0) (ci := 11) (st := []) C (c_X12_takePerson l G τ  iτ (by omega) (by omega) (v_PF (by omega))) (by decide) (by decide) rfl rfl rfl q5_20 q5_17 q5_19 q0_33 q1_7 (by decide +kernel) rfl (by decide) (by decide) rfl (Nat.le_of_ble_eq_true rfl) dX12_tower_69 ?_
            rintro _ τ132 ⟨rfl, i133, f134, h138⟩
            have g137 : Fr MS_X12_towerE AS_X12_towerE σ τ132 := Fr.call (fτ) f134 (by decide)
            have v139 : PF τ132 := (fun q => h138.2.1 q)
            have u140 : IV (gV τ132 23 0 152) 0 7 := i133.1 23 0 152
            have u141 : IV (gV τ132 22 0 11) 0 400 := i133.1 22 0 11
            have u142 : IV (gV τ132 23 0 188) 0 4 := i133.1 23 0 188
            have q143 : (gV τ132 22 0 6).toInt = (gV τ 22 0 6).toInt := congrArg Int32.toInt (show (gV τ132 22 0 6) = (gV τ 22 0 6) from (show gV τ132 22 0 6 = (gV τ 22 0 6) from (f134.1 22 0 (6) (by decide) (by decide)).trans rfl))
            show MW p l e _ s m args below meth c _ 2 G 0 0 72 [some (.ref (G.1 22 0)), none] [] τ132
            refine m_goto (tgt := 43) C dX12_tower_72 (by decide) ?_
            exact ih43 τ132 i133 g137 v139 (by omega) (by have q := hm43; omega)
  have J2 : ∀ (n : Nat) (τ : Sg) (y1 : Int32), Inv τ → Fr MS_X12_towerE AS_X12_towerE σ τ → IV y1 0 50 → ((3 ≤ y1.toInt → (gV τ 23 0 152).toInt = 0)) → (50 - y1.toInt).toNat < n → MW p l e { frames := 4, cells := 0, slots := 0, locals := 92 } s m args below meth c (MQ below (QP G (PI fun r τ => Inv τ ∧ Fr MS_X12_towerE AS_X12_towerE σ τ ∧ IV r (-2147483648) 2147483647 ∧ (gV τ 22 0 6).toInt = 0)) args s 0 0 (aG G)) 2 G 0 0 2 [some (.ref (G.1 22 0)), some (.int y1)] [] τ := by
    intro n
    induction n with
    | zero => intro τ y1 iτ fτ b_y1 nz hm; exact absurd hm (Nat.not_lt_zero _)
    | succ n ih2 =>
      intro τ y1 iτ fτ b_y1 nz hm2
      have u144 : IV (gV τ 23 0 152) 0 7 := iτ.1 23 0 152
      have u145 : IV (gV τ 22 0 11) 0 400 := iτ.1 22 0 11
      have u146 : IV (gV τ 22 0 6) 0 400 := iτ.1 22 0 6
      have u147 : IV (gV τ 23 0 188) 0 4 := iτ.1 23 0 188
      refine m_iload_n C dX12_tower_2 rfl rfl ?_
      refine m_bipush (v := 50) C dX12_tower_3 (by decide) ?_
      refine m_icmp_ge (tgt := 25) C dX12_tower_5 (by decide) (fun c148 => ?_) (fun c148 => ?_)
      · have f149 : 50 ≤ y1.toInt := by
          have q : _ := c148
          simp only [ti_nle, ti_nlt, ti_le, ti_lt, ti_eq, ti_ne, Classical.not_not, kt_50] at q
          omega
        have b150 : IV y1 50 50 := ⟨by have q1 := kc_50; have q2 := b_y1; omega, by have q1 := kc_50; have q2 := b_y1; omega⟩
        refine m_aload_n C dX12_tower_25 rfl rfl ?_
        refine m_iconst (v := 0) C dX12_tower_26 (by decide) ?_
        refine p_22_11 C q4_127 dX12_tower_27 ?_
        refine m_tops (fun τ151 eτ151 => ?_)
        have i152 : Inv τ151 := eτ151 ▸ Inv.put iτ (by decide) (iv_wk kc_0 (by decide))
        have f153 : Fr MS_X12_towerE AS_X12_towerE σ τ151 := eτ151 ▸ Fr.put (fτ) (Or.inl (by decide))
        refine m_aload_n C dX12_tower_30 rfl rfl ?_
        refine m_iconst (v := 0) C dX12_tower_31 (by decide) ?_
        refine p_22_16 C q4_132 dX12_tower_32 ?_
        refine m_tops (fun τ154 eτ154 => ?_)
        have i155 : Inv τ154 := eτ154 ▸ Inv.putF i152 (by decide) rfl
        have f156 : Fr MS_X12_towerE AS_X12_towerE σ τ154 := eτ154 ▸ Fr.put (f153) (Or.inl (by decide))
        refine m_aload_n C dX12_tower_35 rfl rfl ?_
        have q157 : (gV τ154 23 0 152).toInt = (gV τ 23 0 152).toInt := congrArg Int32.toInt (show (gV τ154 23 0 152) = (gV τ 23 0 152) from (show gV τ154 23 0 152 = (gV τ 23 0 152) from gV_put eτ154 (show gV τ151 23 0 152 = (gV τ 23 0 152) from gV_put eτ151 rfl)))
        have q158 : (gV τ154 22 0 6).toInt = (gV τ 22 0 6).toInt := congrArg Int32.toInt (show (gV τ154 22 0 6) = (gV τ 22 0 6) from (show gV τ154 22 0 6 = (gV τ 22 0 6) from gV_put eτ154 (show gV τ151 22 0 6 = (gV τ 22 0 6) from gV_put eτ151 rfl)))
        have q159 : (gV τ154 23 0 188).toInt = (gV τ 23 0 188).toInt := congrArg Int32.toInt (show (gV τ154 23 0 188) = (gV τ 23 0 188) from (show gV τ154 23 0 188 = (gV τ 23 0 188) from gV_put eτ154 (show gV τ151 23 0 188 = (gV τ 23 0 188) from gV_put eτ151 rfl)))
        have q160 : (gV τ154 22 0 11).toInt = 0 := (congrArg Int32.toInt (show (gV τ154 22 0 11) = 0 from (show gV τ154 22 0 11 = 0 from gV_put eτ154 (show gV τ151 22 0 11 = 0 from gV_put eτ151 (gV_self _ _ _ _ _))))).trans kt_0
        have q161 : (gV τ154 22 0 16).toInt = 0 := (congrArg Int32.toInt (show (gV τ154 22 0 16) = 0 from (show gV τ154 22 0 16 = 0 from gV_put eτ154 (gV_self _ _ _ _ _)))).trans kt_0
        refine m_callV (n := 0) (ci := 11) (st := []) C (c_X12_next l G τ154  i155 (by omega)) (by decide) (by decide) rfl rfl rfl q4_231 q4_228 q4_230 q0_28 q1_7 (by decide +kernel) rfl (by decide) (by decide) rfl (Nat.le_of_ble_eq_true rfl) dX12_tower_36 ?_
        rintro _ τ162 ⟨rfl, i163, f164, h168⟩
        have g167 : Fr MS_X12_towerE AS_X12_towerE σ τ162 := Fr.call (f156) f164 (by decide)
        have u169 : IV (gV τ162 22 0 11) 0 400 := i163.1 22 0 11
        have q170 : (gV τ162 23 0 152).toInt = (gV τ 23 0 152).toInt := congrArg Int32.toInt (show (gV τ162 23 0 152) = (gV τ 23 0 152) from (show gV τ162 23 0 152 = (gV τ 23 0 152) from (f164.1 23 0 (152) (by decide) (by decide)).trans (show gV τ154 23 0 152 = (gV τ 23 0 152) from gV_put eτ154 (show gV τ151 23 0 152 = (gV τ 23 0 152) from gV_put eτ151 rfl))))
        have q171 : (gV τ162 22 0 6).toInt = (gV τ 22 0 6).toInt := congrArg Int32.toInt (show (gV τ162 22 0 6) = (gV τ 22 0 6) from (show gV τ162 22 0 6 = (gV τ 22 0 6) from (f164.1 22 0 (6) (by decide) (by decide)).trans (show gV τ154 22 0 6 = (gV τ 22 0 6) from gV_put eτ154 (show gV τ151 22 0 6 = (gV τ 22 0 6) from gV_put eτ151 rfl))))
        have q172 : (gV τ162 23 0 188).toInt = (gV τ 23 0 188).toInt := congrArg Int32.toInt (show (gV τ162 23 0 188) = (gV τ 23 0 188) from (show gV τ162 23 0 188 = (gV τ 23 0 188) from (f164.1 23 0 (188) (by decide) (by decide)).trans (show gV τ154 23 0 188 = (gV τ 23 0 188) from gV_put eτ154 (show gV τ151 23 0 188 = (gV τ 23 0 188) from gV_put eτ151 rfl))))
        have q173 : (gV τ162 22 0 16).toInt = 0 := (congrArg Int32.toInt (show (gV τ162 22 0 16) = 0 from (show gV τ162 22 0 16 = 0 from (f164.1 22 0 (16) (by decide) (by decide)).trans (show gV τ154 22 0 16 = 0 from gV_put eτ154 (gV_self _ _ _ _ _))))).trans kt_0
        show MW p l e _ s m args below meth c _ 2 G 0 0 39 [some (.ref (G.1 22 0)), some (.int y1)] [] τ162
        refine m_aload_n C dX12_tower_39 rfl rfl ?_
        refine m_callV (n := 0) (ci := 11) (st := []) C (c_X12_takeLaw l G τ162  i163 (by omega)) (by decide) (by decide) rfl rfl rfl q5_2 q4_239 q5_1 q0_29 q1_7 (by decide +kernel) rfl (by decide) (by decide) rfl (Nat.le_of_ble_eq_true rfl) dX12_tower_40 ?_
        rintro _ τ174 ⟨rfl, i175, f176, h180⟩
        have g179 : Fr MS_X12_towerE AS_X12_towerE σ τ174 := Fr.call (g167) f176 (by decide)
        have u181 : IV (gV τ174 23 0 152) 0 7 := i175.1 23 0 152
        have u182 : IV (gV τ174 22 0 11) 0 400 := i175.1 22 0 11
        have u183 : IV (gV τ174 23 0 188) 0 4 := i175.1 23 0 188
        have q184 : (gV τ174 22 0 6).toInt = (gV τ 22 0 6).toInt := congrArg Int32.toInt (show (gV τ174 22 0 6) = (gV τ 22 0 6) from (show gV τ174 22 0 6 = (gV τ 22 0 6) from (f176.1 22 0 (6) (by decide) (by decide)).trans (show gV τ162 22 0 6 = (gV τ 22 0 6) from (f164.1 22 0 (6) (by decide) (by decide)).trans (show gV τ154 22 0 6 = (gV τ 22 0 6) from gV_put eτ154 (show gV τ151 22 0 6 = (gV τ 22 0 6) from gV_put eτ151 rfl)))))
        have v185 : PF τ174 := PF.zero (by omega)
        show MW p l e _ s m args below meth c _ 2 G 0 0 43 [some (.ref (G.1 22 0)), some (.int y1)] [] τ174
        refine m_sub (L1 := [some (.ref (G.1 22 0)), none]) ⟨rfl, trivial⟩ ?_
        exact J43 ((2 * (8 - (gV τ174 23 0 152).toInt) + 1 - min 1 (max (gV τ174 22 0 16).toInt (-(gV τ174 22 0 16).toInt))).toNat + 1) τ174 i175 g179 v185 (by omega) (Nat.lt_succ_self _)
      · have f186 : y1.toInt < 50 := by
          have q : _ := c148
          simp only [ti_nle, ti_nlt, ti_le, ti_lt, ti_eq, ti_ne, Classical.not_not, kt_50] at q
          omega
        have b187 : IV y1 0 49 := ⟨by have q1 := b_y1; have q2 := kc_50; omega, by have q1 := b_y1; have q2 := kc_50; omega⟩
        refine m_aload_n C dX12_tower_8 rfl rfl ?_
        refine g_22_0 C q4_116 dX12_tower_9 ?_
        refine m_sipush (v := 150) C dX12_tower_12 (by decide) ?_
        refine m_iload_n C dX12_tower_15 rfl rfl ?_
        refine m_iadd C dX12_tower_16 ?_
        refine m_topi (fun x188 ex188 => ?_)
        have tx188 : x188.toInt = 150 + y1.toInt := by rw [ex188, ti_addv kc_150 b187 (by decide), kt_150]
        have b189 : IV x188 150 199 := by rw [ex188]; exact iv_add kc_150 b187 (by decide)
        refine m_iconst (v := 0) C dX12_tower_17 (by decide) ?_
        refine as_23 C b189 (by decide) rfl dX12_tower_18 ?_
        refine m_tops (fun τ190 eτ190 => ?_)
        have i191 : Inv τ190 := eτ190 ▸ Inv.putR0 iτ (by omega) kt_0
        have f192 : Fr MS_X12_towerE AS_X12_towerE σ τ190 := eτ190 ▸ Fr.put (fτ) (Or.inr (by decide))
        obtain ⟨x193, ex193⟩ : ∃ y : Int32, y = y1 + 1 := ⟨_, rfl⟩
        have tx193 : x193.toInt = y1.toInt + 1 := by rw [ex193, ti_addv b187 kc_1 (by decide), kt_1]
        have b194 : IV x193 1 50 := by rw [ex193]; exact iv_add b187 kc_1 (by decide)
        refine m_iinc (v := x193) (L1 := [some (.ref (G.1 22 0)), some (.int x193)]) C dX12_tower_19 rfl (by rw [ex193]; rfl) (by decide) rfl rfl ?_
        refine m_goto (tgt := 2) C dX12_tower_22 (by decide) ?_
        have q195 : (gV τ190 22 0 16).toInt = (gV τ 22 0 16).toInt := congrArg Int32.toInt (show (gV τ190 22 0 16) = (gV τ 22 0 16) from (show gV τ190 22 0 16 = (gV τ 22 0 16) from gV_put eτ190 rfl))
        have q196 : (gV τ190 22 0 11).toInt = (gV τ 22 0 11).toInt := congrArg Int32.toInt (show (gV τ190 22 0 11) = (gV τ 22 0 11) from (show gV τ190 22 0 11 = (gV τ 22 0 11) from gV_put eτ190 rfl))
        have q197 : (gV τ190 22 0 6).toInt = (gV τ 22 0 6).toInt := congrArg Int32.toInt (show (gV τ190 22 0 6) = (gV τ 22 0 6) from (show gV τ190 22 0 6 = (gV τ 22 0 6) from gV_put eτ190 rfl))
        exact ih2 τ190 x193 i191 f192 (iv_wk b194 (by decide)) (fun q => zero152 eτ190 kt_0 (by omega)) (by have q := hm2; omega)
  have u198 : IV (gV σ 23 0 152) 0 7 := hI.1 23 0 152
  have u199 : IV (gV σ 22 0 11) 0 400 := hI.1 22 0 11
  have u200 : IV (gV σ 22 0 6) 0 400 := hI.1 22 0 6
  have u201 : IV (gV σ 23 0 188) 0 4 := hI.1 23 0 188
  refine m_iconst (v := 0) C dX12_tower_0 (by decide) ?_
  refine m_istore_n (L1 := [some (.ref (G.1 22 0)), some (.int 0)]) C dX12_tower_1 rfl (by decide) rfl rfl ?_
  exact J2 ((50 - (0 : Int32).toInt).toNat + 1) σ 0 hI Fr.rf (iv_wk kc_0 (by decide)) (by omega) (Nat.lt_succ_self _)

theorem Rel.rowB {σ τ υ : Sg} {a1 a2 a3 r1 r2 : Int32} (h : Rel σ) (f1 : Fr MS_X11_rowE AS_X11_rowE σ τ) (f2 : Fr MS_X12_rowE AS_X12_rowE τ υ) (hC : (((a1.toInt < 0 ∨ 7 < a1.toInt ∨ a2.toInt < 0 ∨ 2 < a2.toInt ∨ 40 < a3.toInt) ∧ r1.toInt = -1000001 ∧ SameR σ τ) ∨ ((0 ≤ a1.toInt ∧ a1.toInt ≤ 7 ∧ 0 ≤ a2.toInt ∧ a2.toInt ≤ 2 ∧ a3.toInt < 0) ∧ r1.toInt = -1000014 ∧ SameR σ τ) ∨ ((0 ≤ a1.toInt ∧ a1.toInt ≤ 7 ∧ 0 ≤ a2.toInt ∧ a2.toInt ≤ 2 ∧ 0 ≤ a3.toInt ∧ a3.toInt ≤ 40) ∧ r1.toInt = a3.toInt ∧ BG σ τ (a1.toInt.toNat) a2 a3))) (hM : (((a1.toInt < 0 ∨ 7 < a1.toInt ∨ a2.toInt < 0 ∨ 2 < a2.toInt ∨ 40 < a3.toInt) ∧ r2.toInt = -1000001 ∧ SameL τ υ) ∨ ((0 ≤ a1.toInt ∧ a1.toInt ≤ 7 ∧ 0 ≤ a2.toInt ∧ a2.toInt ≤ 2 ∧ a3.toInt < 0) ∧ r2.toInt = -1000014 ∧ SameL τ υ) ∨ ((0 ≤ a1.toInt ∧ a1.toInt ≤ 7 ∧ 0 ≤ a2.toInt ∧ a2.toInt ≤ 2 ∧ 0 ≤ a3.toInt ∧ a3.toInt ≤ 40) ∧ r2.toInt = a3.toInt ∧ LU τ υ (a1.toInt.toNat) a2 a3))) : Rel υ ∧ r1.toInt = r2.toInt := by
  have l1 : SameL σ τ := SameL.rf.fr f1 (by simp) (by decide)
  have l2 : SameR τ υ := SameR.rf.fr f2 (by simp) (by decide)
  have t1 : gV υ 12 0 1 = gV σ 12 0 1 := (f2.1 12 0 1 (by decide) (by decide)).trans (f1.1 12 0 1 (by decide) (by decide))
  have t2 : gV υ 22 0 6 = gV σ 22 0 6 := (f2.1 22 0 6 (by decide) (by decide)).trans (f1.1 22 0 6 (by decide) (by decide))
  rcases hC with ⟨c1, c2, c3⟩ | ⟨c1, c2, c3⟩ | ⟨c1, c2, c3⟩ <;> rcases hM with ⟨m1, m2, m3⟩ | ⟨m1, m2, m3⟩ | ⟨m1, m2, m3⟩
  · exact ⟨h.same ⟨fun j k => (l2 j k).trans (c3 j k), fun k => ⟨(m3 k).1.trans (l1 k).1, (m3 k).2.trans (l1 k).2⟩, t1, t2⟩, by omega⟩
  · exfalso; omega
  · exfalso; omega
  · exfalso; omega
  · exact ⟨h.same ⟨fun j k => (l2 j k).trans (c3 j k), fun k => ⟨(m3 k).1.trans (l1 k).1, (m3 k).2.trans (l1 k).2⟩, t1, t2⟩, by omega⟩
  · exfalso; omega
  · exfalso; omega
  · exfalso; omega
  · exact ⟨h.begin c3 m3 l1 l2 t1 t2 (by omega), by omega⟩
theorem Rel.dropB {σ τ υ : Sg} {a1 r1 r2 : Int32} (h : Rel σ) (f1 : Fr MS_X11_dropE AS_X11_dropE σ τ) (f2 : Fr MS_X12_dropE AS_X12_dropE τ υ) (hC : (((a1.toInt < 0 ∨ 7 < a1.toInt) ∧ r1.toInt = -1000001 ∧ SameR σ τ) ∨ ((0 ≤ a1.toInt ∧ a1.toInt ≤ 7) ∧ (gV σ 20 (a1.toInt.toNat) 1).toInt = -1 ∧ r1.toInt = -1000011 ∧ SameR σ τ) ∨ ((0 ≤ a1.toInt ∧ a1.toInt ≤ 7) ∧ ¬ ((gV σ 20 (a1.toInt.toNat) 1).toInt = -1) ∧ r1.toInt = (gV σ 20 (a1.toInt.toNat) 2).toInt ∧ BG σ τ (a1.toInt.toNat) (-1) 0))) (hM : (((a1.toInt < 0 ∨ 7 < a1.toInt) ∧ r2.toInt = -1000001 ∧ SameL τ υ) ∨ ((0 ≤ a1.toInt ∧ a1.toInt ≤ 7) ∧ (gV τ 26 0 (a1.toInt.toNat)).toInt < 0 ∧ r2.toInt = -1000011 ∧ SameL τ υ) ∨ ((0 ≤ a1.toInt ∧ a1.toInt ≤ 7) ∧ ¬ ((gV τ 26 0 (a1.toInt.toNat)).toInt < 0) ∧ r2.toInt = (gV τ 27 0 (a1.toInt.toNat)).toInt ∧ LD τ υ (a1.toInt.toNat)))) : Rel υ ∧ r1.toInt = r2.toInt := by
  have l1 : SameL σ τ := SameL.rf.fr f1 (by simp) (by decide)
  have l2 : SameR τ υ := SameR.rf.fr f2 (by simp) (by decide)
  have t1 : gV υ 12 0 1 = gV σ 12 0 1 := (f2.1 12 0 1 (by decide) (by decide)).trans (f1.1 12 0 1 (by decide) (by decide))
  have t2 : gV υ 22 0 6 = gV σ 22 0 6 := (f2.1 22 0 6 (by decide) (by decide)).trans (f1.1 22 0 6 (by decide) (by decide))
  have g1 : (a1.toInt.toNat) < 8 → (gV σ 20 (a1.toInt.toNat) 1).toInt = (gV τ 26 0 (a1.toInt.toNat)).toInt ∧ -1 ≤ (gV τ 26 0 (a1.toInt.toNat)).toInt ∧ (0 ≤ (gV τ 26 0 (a1.toInt.toNat)).toInt → (gV σ 20 (a1.toInt.toNat) 2).toInt = (gV τ 27 0 (a1.toInt.toNat)).toInt) := fun hj => by
    rw [(l1 (a1.toInt.toNat)).1, (l1 (a1.toInt.toNat)).2]
    exact ⟨congrArg Int32.toInt (h.1 (a1.toInt.toNat) hj).1, (h.1 (a1.toInt.toNat) hj).2.1, fun q => congrArg Int32.toInt ((h.1 (a1.toInt.toNat) hj).2.2 q)⟩
  rcases hC with ⟨c1, c3, c4⟩ | ⟨c1, c2, c3, c4⟩ | ⟨c1, c2, c3, c4⟩ <;> rcases hM with ⟨m1, m3, m4⟩ | ⟨m1, m2, m3, m4⟩ | ⟨m1, m2, m3, m4⟩
  · exact ⟨h.same ⟨fun j k => (l2 j k).trans (c4 j k), fun k => ⟨(m4 k).1.trans (l1 k).1, (m4 k).2.trans (l1 k).2⟩, t1, t2⟩, by omega⟩
  · exfalso; omega
  · exfalso; omega
  · exfalso; omega
  · exact ⟨h.same ⟨fun j k => (l2 j k).trans (c4 j k), fun k => ⟨(m4 k).1.trans (l1 k).1, (m4 k).2.trans (l1 k).2⟩, t1, t2⟩, by omega⟩
  · have q := g1 (by omega)
    exfalso; omega
  · exfalso; omega
  · have q := g1 (by omega)
    exfalso; omega
  · have q := g1 (by omega)
    exact ⟨h.drop c4 m4 l1 l2 t1 t2, by omega⟩
theorem Rel.setB {σ τ υ : Sg} {a1 a2 a3 r1 r2 : Int32} (h : Rel σ) (f1 : Fr MS_X11_setE AS_X11_setE σ τ) (f2 : Fr MS_X12_setE AS_X12_setE τ υ) (hC : (((a1.toInt < 0 ∨ 7 < a1.toInt) ∧ r1.toInt = -1000001) ∨ ((0 ≤ a1.toInt ∧ a1.toInt ≤ 7) ∧ (gV σ 20 (a1.toInt.toNat) 1).toInt = -1 ∧ r1.toInt = -1000011) ∨ ((0 ≤ a1.toInt ∧ a1.toInt ≤ 7) ∧ ¬ ((gV σ 20 (a1.toInt.toNat) 1).toInt = -1) ∧ (a2.toInt < 0 ∨ (gV σ 20 (a1.toInt.toNat) 2).toInt ≤ a2.toInt) ∧ r1.toInt = -1000012) ∨ ((0 ≤ a1.toInt ∧ a1.toInt ≤ 7) ∧ ¬ ((gV σ 20 (a1.toInt.toNat) 1).toInt = -1) ∧ 0 ≤ a2.toInt ∧ a2.toInt < (gV σ 20 (a1.toInt.toNat) 2).toInt ∧ r1.toInt = (cutF (gV σ 20 (a1.toInt.toNat) 1) a3).toInt))) (hM : (((a1.toInt < 0 ∨ 7 < a1.toInt) ∧ r2.toInt = -1000001) ∨ ((0 ≤ a1.toInt ∧ a1.toInt ≤ 7) ∧ (gV τ 26 0 (a1.toInt.toNat)).toInt < 0 ∧ r2.toInt = -1000011) ∨ ((0 ≤ a1.toInt ∧ a1.toInt ≤ 7) ∧ ¬ ((gV τ 26 0 (a1.toInt.toNat)).toInt < 0) ∧ (a2.toInt < 0 ∨ (gV τ 27 0 (a1.toInt.toNat)).toInt ≤ a2.toInt) ∧ r2.toInt = -1000012) ∨ ((0 ≤ a1.toInt ∧ a1.toInt ≤ 7) ∧ ¬ ((gV τ 26 0 (a1.toInt.toNat)).toInt < 0) ∧ 0 ≤ a2.toInt ∧ a2.toInt < (gV τ 27 0 (a1.toInt.toNat)).toInt ∧ r2.toInt = (cutF (gV τ 26 0 (a1.toInt.toNat)) a3).toInt))) : r1.toInt = r2.toInt := by
  have l1 : SameL σ τ := SameL.rf.fr f1 (by simp) (by decide)
  have l2 : SameR τ υ := SameR.rf.fr f2 (by simp) (by decide)
  have g1 : (a1.toInt.toNat) < 8 → (gV σ 20 (a1.toInt.toNat) 1).toInt = (gV τ 26 0 (a1.toInt.toNat)).toInt ∧ -1 ≤ (gV τ 26 0 (a1.toInt.toNat)).toInt ∧ (0 ≤ (gV τ 26 0 (a1.toInt.toNat)).toInt → (gV σ 20 (a1.toInt.toNat) 2).toInt = (gV τ 27 0 (a1.toInt.toNat)).toInt) := fun hj => by
    rw [(l1 (a1.toInt.toNat)).1, (l1 (a1.toInt.toNat)).2]
    exact ⟨congrArg Int32.toInt (h.1 (a1.toInt.toNat) hj).1, (h.1 (a1.toInt.toNat) hj).2.1, fun q => congrArg Int32.toInt ((h.1 (a1.toInt.toNat) hj).2.2 q)⟩
  rcases hC with c | ⟨c1, c2⟩ | ⟨c1, c2⟩ | ⟨c1, c2, c3, c4, c5⟩
  · omega
  · have q := g1 (by omega)
    omega
  · have q := g1 (by omega)
    omega
  · have q := g1 (by omega)
    rw [show gV σ 20 (a1.toInt.toNat) 1 = gV τ 26 0 (a1.toInt.toNat) from Int32.toInt_inj.mp q.1] at c5
    omega
theorem Rel.copyB {σ τ υ : Sg} {a1 a2 a3 a4 a5 r1 r2 : Int32} (h : Rel σ) (f1 : Fr MS_X11_copyE AS_X11_copyE σ τ) (f2 : Fr MS_X12_copyE AS_X12_copyE τ υ) (hC : (((a1.toInt < 0 ∨ 7 < a1.toInt ∨ a3.toInt < 0 ∨ 7 < a3.toInt) ∧ r1.toInt = -1000001) ∨ ((0 ≤ a1.toInt ∧ a1.toInt ≤ 7 ∧ 0 ≤ a3.toInt ∧ a3.toInt ≤ 7) ∧ ((gV σ 20 (a1.toInt.toNat) 1).toInt = -1 ∨ (gV σ 20 (a3.toInt.toNat) 1).toInt = -1) ∧ r1.toInt = -1000011) ∨ ((0 ≤ a1.toInt ∧ a1.toInt ≤ 7 ∧ 0 ≤ a3.toInt ∧ a3.toInt ≤ 7) ∧ ¬ ((gV σ 20 (a1.toInt.toNat) 1).toInt = -1) ∧ ¬ ((gV σ 20 (a3.toInt.toNat) 1).toInt = -1) ∧ (gV σ 20 (a1.toInt.toNat) 1).toInt ≠ (gV σ 20 (a3.toInt.toNat) 1).toInt ∧ r1.toInt = -1000015) ∨ ((0 ≤ a1.toInt ∧ a1.toInt ≤ 7 ∧ 0 ≤ a3.toInt ∧ a3.toInt ≤ 7) ∧ ¬ ((gV σ 20 (a1.toInt.toNat) 1).toInt = -1) ∧ ¬ ((gV σ 20 (a3.toInt.toNat) 1).toInt = -1) ∧ (gV σ 20 (a1.toInt.toNat) 1).toInt = (gV σ 20 (a3.toInt.toNat) 1).toInt ∧ ¬ (0 ≤ a2.toInt ∧ 0 ≤ a4.toInt ∧ 0 ≤ a5.toInt ∧ a2.toInt + a5.toInt ≤ (gV σ 20 (a1.toInt.toNat) 2).toInt ∧ a4.toInt + a5.toInt ≤ (gV σ 20 (a3.toInt.toNat) 2).toInt) ∧ r1.toInt = -1000012) ∨ ((0 ≤ a1.toInt ∧ a1.toInt ≤ 7 ∧ 0 ≤ a3.toInt ∧ a3.toInt ≤ 7) ∧ ¬ ((gV σ 20 (a1.toInt.toNat) 1).toInt = -1) ∧ ¬ ((gV σ 20 (a3.toInt.toNat) 1).toInt = -1) ∧ (gV σ 20 (a1.toInt.toNat) 1).toInt = (gV σ 20 (a3.toInt.toNat) 1).toInt ∧ (0 ≤ a2.toInt ∧ 0 ≤ a4.toInt ∧ 0 ≤ a5.toInt ∧ a2.toInt + a5.toInt ≤ (gV σ 20 (a1.toInt.toNat) 2).toInt ∧ a4.toInt + a5.toInt ≤ (gV σ 20 (a3.toInt.toNat) 2).toInt) ∧ r1.toInt = a5.toInt))) (hM : (((a1.toInt < 0 ∨ 7 < a1.toInt ∨ a3.toInt < 0 ∨ 7 < a3.toInt) ∧ r2.toInt = -1000001) ∨ ((0 ≤ a1.toInt ∧ a1.toInt ≤ 7 ∧ 0 ≤ a3.toInt ∧ a3.toInt ≤ 7) ∧ ((gV τ 26 0 (a1.toInt.toNat)).toInt < 0 ∨ (gV τ 26 0 (a3.toInt.toNat)).toInt < 0) ∧ r2.toInt = -1000011) ∨ ((0 ≤ a1.toInt ∧ a1.toInt ≤ 7 ∧ 0 ≤ a3.toInt ∧ a3.toInt ≤ 7) ∧ ¬ ((gV τ 26 0 (a1.toInt.toNat)).toInt < 0) ∧ ¬ ((gV τ 26 0 (a3.toInt.toNat)).toInt < 0) ∧ (gV τ 26 0 (a1.toInt.toNat)).toInt ≠ (gV τ 26 0 (a3.toInt.toNat)).toInt ∧ r2.toInt = -1000015) ∨ ((0 ≤ a1.toInt ∧ a1.toInt ≤ 7 ∧ 0 ≤ a3.toInt ∧ a3.toInt ≤ 7) ∧ ¬ ((gV τ 26 0 (a1.toInt.toNat)).toInt < 0) ∧ ¬ ((gV τ 26 0 (a3.toInt.toNat)).toInt < 0) ∧ (gV τ 26 0 (a1.toInt.toNat)).toInt = (gV τ 26 0 (a3.toInt.toNat)).toInt ∧ ¬ (0 ≤ a2.toInt ∧ 0 ≤ a4.toInt ∧ 0 ≤ a5.toInt ∧ a2.toInt + a5.toInt ≤ (gV τ 27 0 (a1.toInt.toNat)).toInt ∧ a4.toInt + a5.toInt ≤ (gV τ 27 0 (a3.toInt.toNat)).toInt) ∧ r2.toInt = -1000012) ∨ ((0 ≤ a1.toInt ∧ a1.toInt ≤ 7 ∧ 0 ≤ a3.toInt ∧ a3.toInt ≤ 7) ∧ ¬ ((gV τ 26 0 (a1.toInt.toNat)).toInt < 0) ∧ ¬ ((gV τ 26 0 (a3.toInt.toNat)).toInt < 0) ∧ (gV τ 26 0 (a1.toInt.toNat)).toInt = (gV τ 26 0 (a3.toInt.toNat)).toInt ∧ (0 ≤ a2.toInt ∧ 0 ≤ a4.toInt ∧ 0 ≤ a5.toInt ∧ a2.toInt + a5.toInt ≤ (gV τ 27 0 (a1.toInt.toNat)).toInt ∧ a4.toInt + a5.toInt ≤ (gV τ 27 0 (a3.toInt.toNat)).toInt) ∧ r2.toInt = a5.toInt))) : r1.toInt = r2.toInt := by
  have l1 : SameL σ τ := SameL.rf.fr f1 (by simp) (by decide)
  have l2 : SameR τ υ := SameR.rf.fr f2 (by simp) (by decide)
  have g1 : (a1.toInt.toNat) < 8 → (gV σ 20 (a1.toInt.toNat) 1).toInt = (gV τ 26 0 (a1.toInt.toNat)).toInt ∧ -1 ≤ (gV τ 26 0 (a1.toInt.toNat)).toInt ∧ (0 ≤ (gV τ 26 0 (a1.toInt.toNat)).toInt → (gV σ 20 (a1.toInt.toNat) 2).toInt = (gV τ 27 0 (a1.toInt.toNat)).toInt) := fun hj => by
    rw [(l1 (a1.toInt.toNat)).1, (l1 (a1.toInt.toNat)).2]
    exact ⟨congrArg Int32.toInt (h.1 (a1.toInt.toNat) hj).1, (h.1 (a1.toInt.toNat) hj).2.1, fun q => congrArg Int32.toInt ((h.1 (a1.toInt.toNat) hj).2.2 q)⟩
  have g3 : (a3.toInt.toNat) < 8 → (gV σ 20 (a3.toInt.toNat) 1).toInt = (gV τ 26 0 (a3.toInt.toNat)).toInt ∧ -1 ≤ (gV τ 26 0 (a3.toInt.toNat)).toInt ∧ (0 ≤ (gV τ 26 0 (a3.toInt.toNat)).toInt → (gV σ 20 (a3.toInt.toNat) 2).toInt = (gV τ 27 0 (a3.toInt.toNat)).toInt) := fun hj => by
    rw [(l1 (a3.toInt.toNat)).1, (l1 (a3.toInt.toNat)).2]
    exact ⟨congrArg Int32.toInt (h.1 (a3.toInt.toNat) hj).1, (h.1 (a3.toInt.toNat) hj).2.1, fun q => congrArg Int32.toInt ((h.1 (a3.toInt.toNat) hj).2.2 q)⟩
  rcases hC with c | ⟨c1, c2⟩ | ⟨c1, c2⟩ | ⟨c1, c2⟩ | ⟨c1, c2⟩
  · omega
  · have q := g1 (by omega)
    have q3 := g3 (by omega)
    omega
  · have q := g1 (by omega)
    have q3 := g3 (by omega)
    omega
  · have q := g1 (by omega)
    have q3 := g3 (by omega)
    omega
  · have q := g1 (by omega)
    have q3 := g3 (by omega)
    omega
theorem Rel.feedB {σ τ υ : Sg} {a2 r1 r2 : Int32} (h : Rel σ) (f1 : Fr MS_X11_feedE AS_X11_feedE σ τ) (f2 : Fr MS_X12_feedE AS_X12_feedE τ υ) (hC : (((a2.toInt < 1 ∨ 8 < a2.toInt) ∧ r1.toInt = -1000001 ∧ (gV τ 12 0 1).toInt = (gV σ 12 0 1).toInt) ∨ ((1 ≤ a2.toInt ∧ a2.toInt ≤ 8) ∧ 400 < (gV σ 12 0 1).toInt + a2.toInt ∧ r1.toInt = -1000003 ∧ (gV τ 12 0 1).toInt = (gV σ 12 0 1).toInt) ∨ ((1 ≤ a2.toInt ∧ a2.toInt ≤ 8) ∧ (gV σ 12 0 1).toInt + a2.toInt ≤ 400 ∧ r1.toInt = (gV σ 12 0 1).toInt + a2.toInt ∧ (gV τ 12 0 1).toInt = (gV σ 12 0 1).toInt + a2.toInt))) (hM : (((a2.toInt < 1 ∨ 8 < a2.toInt) ∧ r2.toInt = -1000001 ∧ (gV υ 22 0 6).toInt = (gV τ 22 0 6).toInt) ∨ ((1 ≤ a2.toInt ∧ a2.toInt ≤ 8) ∧ 400 < (gV τ 22 0 6).toInt + a2.toInt ∧ r2.toInt = -1000003 ∧ (gV υ 22 0 6).toInt = (gV τ 22 0 6).toInt) ∨ ((1 ≤ a2.toInt ∧ a2.toInt ≤ 8) ∧ (gV τ 22 0 6).toInt + a2.toInt ≤ 400 ∧ r2.toInt = (gV τ 22 0 6).toInt + a2.toInt ∧ (gV υ 22 0 6).toInt = (gV τ 22 0 6).toInt + a2.toInt))) : Rel υ ∧ r1.toInt = r2.toInt := by
  have l1 : SameR σ υ := (SameR.rf.fr f1 (by simp) (by decide)).fr f2 (by simp) (by decide)
  have l2 : SameL σ υ := (SameL.rf.fr f1 (by simp) (by decide)).fr f2 (by simp) (by decide)
  have t1 : (gV υ 12 0 1).toInt = (gV τ 12 0 1).toInt := congrArg Int32.toInt (f2.1 12 0 1 (by decide) (by decide))
  have t2 : (gV τ 22 0 6).toInt = (gV σ 22 0 6).toInt := congrArg Int32.toInt (f1.1 22 0 6 (by decide) (by decide))
  have t3 : (gV σ 12 0 1).toInt = (gV σ 22 0 6).toInt := congrArg Int32.toInt h.2
  exact ⟨h.tape l1 l2 (by omega), by omega⟩
theorem Rel.towerB {σ τ υ : Sg} {a2 r1 r2 : Int32} (h : Rel σ) (f1 : Fr MS_X11_towerE AS_X11_towerE σ τ) (f2 : Fr MS_X12_towerE AS_X12_towerE τ υ) (hC : (gV τ 12 0 1).toInt = 0) (hM : (gV υ 22 0 6).toInt = 0) : Rel υ := by
  have l1 : SameR σ υ := (SameR.rf.fr f1 (by simp) (by decide)).fr f2 (by simp) (by decide)
  have l2 : SameL σ υ := (SameL.rf.fr f1 (by simp) (by decide)).fr f2 (by simp) (by decide)
  have t1 : (gV υ 12 0 1).toInt = (gV τ 12 0 1).toInt := congrArg Int32.toInt (f2.1 12 0 1 (by decide) (by decide))
  have t2 : (gV τ 22 0 6).toInt = (gV σ 22 0 6).toInt := congrArg Int32.toInt (f1.1 22 0 6 (by decide) (by decide))
  have t3 : (gV σ 12 0 1).toInt = (gV σ 22 0 6).toInt := congrArg Int32.toInt h.2
  exact h.tape l1 l2 (by omega)
