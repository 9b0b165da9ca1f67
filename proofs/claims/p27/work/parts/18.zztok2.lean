abbrev MS_X6_isBlankE : List (Nat × Nat) := []
abbrev AS_X6_isBlankE : List Nat := []
set_option maxHeartbeats 4000000 in
set_option maxRecDepth 100000 in
theorem c_X6_isBlankE (l : Launch) (G : Gt) (σ : Sg) (a1 : Int32) (hI : Inv σ) : Mc l G yX6_isBlank cX6_isBlank 1 (some .boolean) 0 0 0 0 [.int a1] σ (PI fun r τ => Inv τ ∧ Fr MS_X6_isBlankE AS_X6_isBlankE σ τ ∧ IV r 0 1 ∧ ((r.toInt = 1 ∧ (a1.toInt = 32 ∨ a1.toInt = 10)) ∨ (r.toInt = 0 ∧ a1.toInt ≠ 32 ∧ a1.toInt ≠ 10))) := by
  refine Mc.of (L0 := [some (.int a1)]) (by decide) (Nat.le_of_ble_eq_true rfl) rfl ?_
  intro p e s m args below meth c C hr hlk
  have C : Cx p s m args c cX6_isBlank 1 "LeanTower$Reader" := C
  have k0 : (0 : Int32).toInt = 0 := by decide
  have k1 : (1 : Int32).toInt = 1 := by decide
  refine m_iload_n C dX6_isBlank_0 rfl rfl ?_
  refine m_bipush (v := 32) C dX6_isBlank_1 (by decide) ?_
  refine m_icmp_eq (tgt := 12) C dX6_isBlank_3 (by decide) (fun c1 => ?_) (fun c1 => ?_)
  · have f2 : a1.toInt = 32 := by
      have q : _ := c1
      simp only [ti_nle, ti_nlt, ti_le, ti_lt, ti_eq, ti_ne, Classical.not_not, kt_32] at q
      omega
    have b3 : IV a1 32 32 := ⟨by have q1 := (iv_any a1); have q2 := kc_32; omega, by have q1 := (iv_any a1); have q2 := kc_32; omega⟩
    refine m_iconst (v := 1) C dX6_isBlank_12 (by decide) ?_
    refine m_goto (tgt := 17) C dX6_isBlank_13 (by decide) ?_
    exact m_zret C hr rfl hlk (by decide) (by decide) dX6_isBlank_17 ⟨_, rfl, hI, Fr.rf, (iv_wk kc_1 (by decide)), (by have q := kt_1; omega)⟩
  · have f4 : a1.toInt ≠ 32 := by
      have q : _ := c1
      simp only [ti_nle, ti_nlt, ti_le, ti_lt, ti_eq, ti_ne, Classical.not_not, kt_32] at q
      omega
    refine m_iload_n C dX6_isBlank_6 rfl rfl ?_
    refine m_bipush (v := 10) C dX6_isBlank_7 (by decide) ?_
    refine m_icmp_ne (tgt := 16) C dX6_isBlank_9 (by decide) (fun c5 => ?_) (fun c5 => ?_)
    · have f6 : a1.toInt ≠ 10 := by
        have q : _ := c5
        simp only [ti_nle, ti_nlt, ti_le, ti_lt, ti_eq, ti_ne, Classical.not_not, kt_10] at q
        omega
      refine m_iconst (v := 0) C dX6_isBlank_16 (by decide) ?_
      exact m_zret C hr rfl hlk (by decide) (by decide) dX6_isBlank_17 ⟨_, rfl, hI, Fr.rf, (iv_wk kc_0 (by decide)), (by have q := kt_0; omega)⟩
    · have f7 : a1.toInt = 10 := by
        have q : _ := c5
        simp only [ti_nle, ti_nlt, ti_le, ti_lt, ti_eq, ti_ne, Classical.not_not, kt_10] at q
        omega
      have b8 : IV a1 10 10 := ⟨by have q1 := (iv_any a1); have q2 := kc_10; omega, by have q1 := (iv_any a1); have q2 := kc_10; omega⟩
      refine m_iconst (v := 1) C dX6_isBlank_12 (by decide) ?_
      refine m_goto (tgt := 17) C dX6_isBlank_13 (by decide) ?_
      exact m_zret C hr rfl hlk (by decide) (by decide) dX6_isBlank_17 ⟨_, rfl, hI, Fr.rf, (iv_wk kc_1 (by decide)), (by have q := kt_1; omega)⟩

abbrev MS_X6_isLetterE : List (Nat × Nat) := []
abbrev AS_X6_isLetterE : List Nat := []
set_option maxHeartbeats 4000000 in
set_option maxRecDepth 100000 in
theorem c_X6_isLetterE (l : Launch) (G : Gt) (σ : Sg) (a1 : Int32) (hI : Inv σ) : Mc l G yX6_isLetter cX6_isLetter 1 (some .boolean) 0 0 0 0 [.int a1] σ (PI fun r τ => Inv τ ∧ Fr MS_X6_isLetterE AS_X6_isLetterE σ τ ∧ IV r 0 1 ∧ ((r.toInt = 1 ∧ 97 ≤ a1.toInt ∧ a1.toInt ≤ 122) ∨ (r.toInt = 0 ∧ (a1.toInt < 97 ∨ 122 < a1.toInt)))) := by
  refine Mc.of (L0 := [some (.int a1)]) (by decide) (Nat.le_of_ble_eq_true rfl) rfl ?_
  intro p e s m args below meth c C hr hlk
  have C : Cx p s m args c cX6_isLetter 1 "LeanTower$Reader" := C
  have k0 : (0 : Int32).toInt = 0 := by decide
  have k1 : (1 : Int32).toInt = 1 := by decide
  refine m_iload_n C dX6_isLetter_0 rfl rfl ?_
  refine m_bipush (v := 97) C dX6_isLetter_1 (by decide) ?_
  refine m_icmp_lt (tgt := 16) C dX6_isLetter_3 (by decide) (fun c1 => ?_) (fun c1 => ?_)
  · have f2 : a1.toInt < 97 := by
      have q : _ := c1
      simp only [ti_nle, ti_nlt, ti_le, ti_lt, ti_eq, ti_ne, Classical.not_not, kt_97] at q
      omega
    have b3 : IV a1 (-2147483648) 96 := ⟨by have q1 := (iv_any a1); have q2 := kc_97; omega, by have q1 := (iv_any a1); have q2 := kc_97; omega⟩
    refine m_iconst (v := 0) C dX6_isLetter_16 (by decide) ?_
    exact m_zret C hr rfl hlk (by decide) (by decide) dX6_isLetter_17 ⟨_, rfl, hI, Fr.rf, (iv_wk kc_0 (by decide)), (by have q := kt_0; omega)⟩
  · have f4 : 97 ≤ a1.toInt := by
      have q : _ := c1
      simp only [ti_nle, ti_nlt, ti_le, ti_lt, ti_eq, ti_ne, Classical.not_not, kt_97] at q
      omega
    have b5 : IV a1 97 2147483647 := ⟨by have q1 := kc_97; have q2 := (iv_any a1); omega, by have q1 := kc_97; have q2 := (iv_any a1); omega⟩
    refine m_iload_n C dX6_isLetter_6 rfl rfl ?_
    refine m_bipush (v := 122) C dX6_isLetter_7 (by decide) ?_
    refine m_icmp_gt (tgt := 16) C dX6_isLetter_9 (by decide) (fun c6 => ?_) (fun c6 => ?_)
    · have f7 : 122 < a1.toInt := by
        have q : _ := c6
        simp only [ti_nle, ti_nlt, ti_le, ti_lt, ti_eq, ti_ne, Classical.not_not, kt_122] at q
        omega
      have b8 : IV a1 123 2147483647 := ⟨by have q1 := kc_122; have q2 := b5; omega, by have q1 := kc_122; have q2 := b5; omega⟩
      refine m_iconst (v := 0) C dX6_isLetter_16 (by decide) ?_
      exact m_zret C hr rfl hlk (by decide) (by decide) dX6_isLetter_17 ⟨_, rfl, hI, Fr.rf, (iv_wk kc_0 (by decide)), (by have q := kt_0; omega)⟩
    · have f9 : a1.toInt ≤ 122 := by
        have q : _ := c6
        simp only [ti_nle, ti_nlt, ti_le, ti_lt, ti_eq, ti_ne, Classical.not_not, kt_122] at q
        omega
      have b10 : IV a1 97 122 := ⟨by have q1 := b5; have q2 := kc_122; omega, by have q1 := b5; have q2 := kc_122; omega⟩
      refine m_iconst (v := 1) C dX6_isLetter_12 (by decide) ?_
      refine m_goto (tgt := 17) C dX6_isLetter_13 (by decide) ?_
      exact m_zret C hr rfl hlk (by decide) (by decide) dX6_isLetter_17 ⟨_, rfl, hI, Fr.rf, (iv_wk kc_1 (by decide)), (by have q := kt_1; omega)⟩

abbrev MS_X6_isFigureE : List (Nat × Nat) := []
abbrev AS_X6_isFigureE : List Nat := []
set_option maxHeartbeats 4000000 in
set_option maxRecDepth 100000 in
theorem c_X6_isFigureE (l : Launch) (G : Gt) (σ : Sg) (a1 : Int32) (hI : Inv σ) : Mc l G yX6_isFigure cX6_isFigure 1 (some .boolean) 0 0 0 0 [.int a1] σ (PI fun r τ => Inv τ ∧ Fr MS_X6_isFigureE AS_X6_isFigureE σ τ ∧ IV r 0 1 ∧ ((r.toInt = 1 ∧ 48 ≤ a1.toInt ∧ a1.toInt ≤ 57) ∨ (r.toInt = 0 ∧ (a1.toInt < 48 ∨ 57 < a1.toInt)))) := by
  refine Mc.of (L0 := [some (.int a1)]) (by decide) (Nat.le_of_ble_eq_true rfl) rfl ?_
  intro p e s m args below meth c C hr hlk
  have C : Cx p s m args c cX6_isFigure 1 "LeanTower$Reader" := C
  have k0 : (0 : Int32).toInt = 0 := by decide
  have k1 : (1 : Int32).toInt = 1 := by decide
  refine m_iload_n C dX6_isFigure_0 rfl rfl ?_
  refine m_bipush (v := 48) C dX6_isFigure_1 (by decide) ?_
  refine m_icmp_lt (tgt := 16) C dX6_isFigure_3 (by decide) (fun c1 => ?_) (fun c1 => ?_)
  · have f2 : a1.toInt < 48 := by
      have q : _ := c1
      simp only [ti_nle, ti_nlt, ti_le, ti_lt, ti_eq, ti_ne, Classical.not_not, kt_48] at q
      omega
    have b3 : IV a1 (-2147483648) 47 := ⟨by have q1 := (iv_any a1); have q2 := kc_48; omega, by have q1 := (iv_any a1); have q2 := kc_48; omega⟩
    refine m_iconst (v := 0) C dX6_isFigure_16 (by decide) ?_
    exact m_zret C hr rfl hlk (by decide) (by decide) dX6_isFigure_17 ⟨_, rfl, hI, Fr.rf, (iv_wk kc_0 (by decide)), (by have q := kt_0; omega)⟩
  · have f4 : 48 ≤ a1.toInt := by
      have q : _ := c1
      simp only [ti_nle, ti_nlt, ti_le, ti_lt, ti_eq, ti_ne, Classical.not_not, kt_48] at q
      omega
    have b5 : IV a1 48 2147483647 := ⟨by have q1 := kc_48; have q2 := (iv_any a1); omega, by have q1 := kc_48; have q2 := (iv_any a1); omega⟩
    refine m_iload_n C dX6_isFigure_6 rfl rfl ?_
    refine m_bipush (v := 57) C dX6_isFigure_7 (by decide) ?_
    refine m_icmp_gt (tgt := 16) C dX6_isFigure_9 (by decide) (fun c6 => ?_) (fun c6 => ?_)
    · have f7 : 57 < a1.toInt := by
        have q : _ := c6
        simp only [ti_nle, ti_nlt, ti_le, ti_lt, ti_eq, ti_ne, Classical.not_not, kt_57] at q
        omega
      have b8 : IV a1 58 2147483647 := ⟨by have q1 := kc_57; have q2 := b5; omega, by have q1 := kc_57; have q2 := b5; omega⟩
      refine m_iconst (v := 0) C dX6_isFigure_16 (by decide) ?_
      exact m_zret C hr rfl hlk (by decide) (by decide) dX6_isFigure_17 ⟨_, rfl, hI, Fr.rf, (iv_wk kc_0 (by decide)), (by have q := kt_0; omega)⟩
    · have f9 : a1.toInt ≤ 57 := by
        have q : _ := c6
        simp only [ti_nle, ti_nlt, ti_le, ti_lt, ti_eq, ti_ne, Classical.not_not, kt_57] at q
        omega
      have b10 : IV a1 48 57 := ⟨by have q1 := b5; have q2 := kc_57; omega, by have q1 := b5; have q2 := kc_57; omega⟩
      refine m_iconst (v := 1) C dX6_isFigure_12 (by decide) ?_
      refine m_goto (tgt := 17) C dX6_isFigure_13 (by decide) ?_
      exact m_zret C hr rfl hlk (by decide) (by decide) dX6_isFigure_17 ⟨_, rfl, hI, Fr.rf, (iv_wk kc_1 (by decide)), (by have q := kt_1; omega)⟩

abbrev MS_X6_passLettersE : List (Nat × Nat) := [(12, 5), (12, 6)]
abbrev AS_X6_passLettersE : List Nat := []
set_option maxHeartbeats 4000000 in
set_option maxRecDepth 100000 in
theorem c_X6_passLettersE (l : Launch) (G : Gt) (σ : Sg) (T : Nat → Int) (N : Nat) (i : Nat) (hI : Inv σ) (hT : TpC σ T N) (hi5 : (gV σ 12 0 5).toInt = (i : Int)) : Mc l G yX6_passLetters cX6_passLetters 1 none 1 20 0 0 [.ref (G.1 12 0)] σ (PV fun τ => Inv τ ∧ Fr MS_X6_passLettersE AS_X6_passLettersE σ τ ∧ ((gV τ 12 0 5).toInt = (sc isLe T i : Int) ∧ (gV τ 12 0 6).toInt = 1)) := by
  refine Mc.of (L0 := [some (.ref (G.1 12 0))]) (by decide) (Nat.le_of_ble_eq_true rfl) rfl ?_
  intro p e s m args below meth c C hr hlk
  have C : Cx p s m args c cX6_passLetters 1 "LeanTower$Reader" := C
  have k0 : (0 : Int32).toInt = 0 := by decide
  have k1 : (1 : Int32).toInt = 1 := by decide
  have J5 : ∀ (n : Nat) (τ : Sg), Inv τ → Fr MS_X6_passLettersE AS_X6_passLettersE σ τ → (TpC τ T N) → (sc isLe T ((gV τ 12 0 5).toInt.toNat) = sc isLe T i) → ((gV τ 12 0 6).toInt = 1) → (400 - (gV τ 12 0 5).toInt).toNat < n → MW p l e { frames := 1, cells := 0, slots := 0, locals := 20 } s m args below meth c (MQ below (QP G (PV fun τ => Inv τ ∧ Fr MS_X6_passLettersE AS_X6_passLettersE σ τ ∧ ((gV τ 12 0 5).toInt = (sc isLe T i : Int) ∧ (gV τ 12 0 6).toInt = 1))) args s 0 0 (aG G)) 1 G 0 0 5 [some (.ref (G.1 12 0))] [] τ := by
    intro n
    induction n with
    | zero => intro τ iτ fτ v_T nS n1 hm; exact absurd hm (Nat.not_lt_zero _)
    | succ n ih5 =>
      intro τ iτ fτ v_T nS n1 hm5
      have u2 : IV (gV τ 12 0 1) 0 400 := iτ.1 12 0 1
      have u3 : IV (gV τ 12 0 5) 0 400 := iτ.1 12 0 5
      have q4 : (gV τ 12 0 1).toInt = (N : Int) := v_T.1
      have q5 := v_T.2.1
      refine m_aload_n C dX6_passLetters_5 rfl rfl ?_
      refine g_12_5 C q1_45 dX6_passLetters_6 ?_
      refine m_eqs (w := (gV τ 12 0 5)) rfl ?_
      refine m_aload_n C dX6_passLetters_9 rfl rfl ?_
      refine g_12_1 C q1_38 dX6_passLetters_10 ?_
      refine m_eqs (w := (gV τ 12 0 1)) rfl ?_
      refine m_icmp_ge (tgt := 44) C dX6_passLetters_13 (by decide) (fun c6 => ?_) (fun c6 => ?_)
      · have f7 : (gV τ 12 0 1).toInt ≤ (gV τ 12 0 5).toInt := by
          have q : _ := c6
          simp only [ti_nle, ti_nlt, ti_le, ti_lt, ti_eq, ti_ne, Classical.not_not] at q
          omega
        exact m_vret C hr hlk (by decide) (by decide) dX6_passLetters_44 ⟨rfl, iτ, fτ, (by have q0 := sc_no (P := isLe) (T := T) (i := ((gV τ 12 0 5).toInt.toNat)) (isLe_f (by first | omega | (have q2 := v_T.2.2.2 ((gV τ 12 0 5).toInt.toNat) (by omega); omega))); have q3 := nS; omega)⟩
      · have f8 : (gV τ 12 0 5).toInt < (gV τ 12 0 1).toInt := by
          have q : _ := c6
          simp only [ti_nle, ti_nlt, ti_le, ti_lt, ti_eq, ti_ne, Classical.not_not] at q
          omega
        have b9 : IV (gV τ 12 0 5) 0 399 := ⟨by have q1 := u3; have q2 := u2; omega, by have q1 := u3; have q2 := u2; omega⟩
        have b10 : IV (gV τ 12 0 1) 1 400 := ⟨by have q1 := u3; have q2 := u2; omega, by have q1 := u3; have q2 := u2; omega⟩
        refine m_aload_n C dX6_passLetters_16 rfl rfl ?_
        refine g_12_0 C q1_37 dX6_passLetters_17 ?_
        refine m_aload_n C dX6_passLetters_20 rfl rfl ?_
        refine g_12_5 C q1_45 dX6_passLetters_21 ?_
        refine m_eqs (w := (gV τ 12 0 5)) rfl ?_
        refine al_13 C b9 (by decide) rfl dX6_passLetters_24 ?_
        refine m_topi (fun x11 ex11 => ?_)
        have q12 := v_T.2.2.1 ((gV τ 12 0 5).toInt.toNat) (by omega)
        rw [show gV τ 13 0 ((gV τ 12 0 5).toInt.toNat) = x11 from ex11.symm] at q12
        refine m_callS (n := 1) (st := []) C (c_X6_isLetterE l G τ (x11) iτ ) q2_69 q2_67 q2_68 q1_2 (by decide +kernel) rfl (by decide) (by decide) rfl (Nat.le_of_ble_eq_true rfl) dX6_passLetters_25 ?_
        rintro _ τ13 ⟨x16, rfl, i14, f15, b17, h19⟩
        have g18 : Fr MS_X6_passLettersE AS_X6_passLettersE σ τ13 := Fr.call (fτ) f15 (by decide)
        have v20 : TpC τ13 T N := v_T.fr f15 (by decide) (by decide) (by simp) (by decide)
        have q21 : (gV τ13 12 0 1).toInt = (gV τ 12 0 1).toInt := congrArg Int32.toInt (show (gV τ13 12 0 1) = (gV τ 12 0 1) from (show gV τ13 12 0 1 = (gV τ 12 0 1) from (f15.1 12 0 (1) (by decide) (by decide)).trans rfl))
        have q22 : (gV τ13 12 0 5).toInt = (gV τ 12 0 5).toInt := congrArg Int32.toInt (show (gV τ13 12 0 5) = (gV τ 12 0 5) from (show gV τ13 12 0 5 = (gV τ 12 0 5) from (f15.1 12 0 (5) (by decide) (by decide)).trans rfl))
        have q23 : (gV τ13 12 0 6).toInt = (gV τ 12 0 6).toInt := congrArg Int32.toInt (show (gV τ13 12 0 6) = (gV τ 12 0 6) from (show gV τ13 12 0 6 = (gV τ 12 0 6) from (f15.1 12 0 (6) (by decide) (by decide)).trans rfl))
        rcases h19 with ⟨h19_0, h19_1, h19_2⟩ | ⟨h19_0, h19_1⟩
        · skip
          have b24 : IV x16 1 1 := ⟨by omega, by omega⟩
          show MW p l e _ s m args below meth c _ 1 G 0 0 28 [some (.ref (G.1 12 0))] [.int x16] τ13
          refine m_if_eq (tgt := 44) C dX6_passLetters_28 (by decide) (fun c25 => ?_) (fun c25 => ?_)
          · exfalso
            have q : _ := c25
            simp only [ti_nle, ti_nlt, ti_le, ti_lt, ti_eq, ti_ne, Classical.not_not, kt_0] at q
            have q1 := b24; have q2 := kc_0; omega
          · have f27 : x16.toInt ≠ 0 := by
              have q : _ := c25
              simp only [ti_nle, ti_nlt, ti_le, ti_lt, ti_eq, ti_ne, Classical.not_not, kt_0] at q
              omega
            refine m_aload_n C dX6_passLetters_31 rfl rfl ?_
            refine m_dup C dX6_passLetters_32 rfl ?_
            refine g_12_5 C q1_45 dX6_passLetters_33 ?_
            refine m_eqs (w := (gV τ 12 0 5)) (show gV τ13 12 0 5 = (gV τ 12 0 5) from (f15.1 12 0 (5) (by decide) (by decide)).trans rfl) ?_
            refine m_iconst (v := 1) C dX6_passLetters_36 (by decide) ?_
            refine m_iadd C dX6_passLetters_37 ?_
            refine m_topi (fun x28 ex28 => ?_)
            have tx28 : x28.toInt = (gV τ 12 0 5).toInt + 1 := by rw [ex28, ti_addv b9 kc_1 (by decide), kt_1]
            have b29 : IV x28 1 400 := by rw [ex28]; exact iv_add b9 kc_1 (by decide)
            refine p_12_5 C q1_45 dX6_passLetters_38 ?_
            refine m_tops (fun τ30 eτ30 => ?_)
            have i31 : Inv τ30 := eτ30 ▸ Inv.put i14 (by decide) (iv_wk b29 (by decide))
            have f32 : Fr MS_X6_passLettersE AS_X6_passLettersE σ τ30 := eτ30 ▸ Fr.put (g18) (Or.inl (by decide))
            have v33 : TpC τ30 T N := v20.put eτ30 (Or.inr (by decide)) (by decide)
            refine m_goto (tgt := 5) C dX6_passLetters_41 (by decide) ?_
            have q34 : (gV τ30 12 0 1).toInt = (gV τ 12 0 1).toInt := congrArg Int32.toInt (show (gV τ30 12 0 1) = (gV τ 12 0 1) from (show gV τ30 12 0 1 = (gV τ 12 0 1) from gV_put eτ30 (show gV τ13 12 0 1 = (gV τ 12 0 1) from (f15.1 12 0 (1) (by decide) (by decide)).trans rfl)))
            have q35 : (gV τ30 12 0 6).toInt = (gV τ 12 0 6).toInt := congrArg Int32.toInt (show (gV τ30 12 0 6) = (gV τ 12 0 6) from (show gV τ30 12 0 6 = (gV τ 12 0 6) from gV_put eτ30 (show gV τ13 12 0 6 = (gV τ 12 0 6) from (f15.1 12 0 (6) (by decide) (by decide)).trans rfl)))
            have q36 : (gV τ30 12 0 5).toInt = x28.toInt := congrArg Int32.toInt (show (gV τ30 12 0 5) = x28 from (show gV τ30 12 0 5 = x28 from gV_put eτ30 (gV_self _ _ _ _ _)))
            exact ih5 τ30 i31 f32 v33 (by first | (rw [show (gV τ30 12 0 5).toInt.toNat = i by omega]) | (rw [show (gV τ30 12 0 5).toInt.toNat = ((gV τ 12 0 5).toInt.toNat) + 1 by omega, sc_go (by omega) (isLe_t (by omega))]; exact nS)) (by omega) (by have q := hm5; omega)
        · skip
          have b37 : IV x16 0 0 := ⟨by omega, by omega⟩
          show MW p l e _ s m args below meth c _ 1 G 0 0 28 [some (.ref (G.1 12 0))] [.int x16] τ13
          refine m_if_eq (tgt := 44) C dX6_passLetters_28 (by decide) (fun c38 => ?_) (fun c38 => ?_)
          · have f39 : x16.toInt = 0 := by
              have q : _ := c38
              simp only [ti_nle, ti_nlt, ti_le, ti_lt, ti_eq, ti_ne, Classical.not_not, kt_0] at q
              omega
            exact m_vret C hr hlk (by decide) (by decide) dX6_passLetters_44 ⟨rfl, i14, g18, (by have q0 := sc_no (P := isLe) (T := T) (i := ((gV τ 12 0 5).toInt.toNat)) (isLe_f (by first | omega | (have q2 := v20.2.2.2 ((gV τ 12 0 5).toInt.toNat) (by omega); omega))); have q3 := nS; omega)⟩
          · exfalso
            have q : _ := c38
            simp only [ti_nle, ti_nlt, ti_le, ti_lt, ti_eq, ti_ne, Classical.not_not, kt_0] at q
            have q1 := b37; have q2 := kc_0; omega
  have u41 : IV (gV σ 12 0 1) 0 400 := hI.1 12 0 1
  have u42 : IV (gV σ 12 0 5) 0 400 := hI.1 12 0 5
  have q43 : (gV σ 12 0 1).toInt = (N : Int) := hT.1
  have q44 := hT.2.1
  refine m_aload_n C dX6_passLetters_0 rfl rfl ?_
  refine m_iconst (v := 1) C dX6_passLetters_1 (by decide) ?_
  refine p_12_6 C q1_46 dX6_passLetters_2 ?_
  refine m_tops (fun τ45 eτ45 => ?_)
  have i46 : Inv τ45 := eτ45 ▸ Inv.putF hI (by decide) rfl
  have f47 : Fr MS_X6_passLettersE AS_X6_passLettersE σ τ45 := eτ45 ▸ Fr.put (Fr.rf) (Or.inl (by decide))
  have v48 : TpC τ45 T N := hT.put eτ45 (Or.inr (by decide)) (by decide)
  have q49 : (gV τ45 12 0 1).toInt = (gV σ 12 0 1).toInt := congrArg Int32.toInt (show (gV τ45 12 0 1) = (gV σ 12 0 1) from (show gV τ45 12 0 1 = (gV σ 12 0 1) from gV_put eτ45 rfl))
  have q50 : (gV τ45 12 0 5).toInt = (gV σ 12 0 5).toInt := congrArg Int32.toInt (show (gV τ45 12 0 5) = (gV σ 12 0 5) from (show gV τ45 12 0 5 = (gV σ 12 0 5) from gV_put eτ45 rfl))
  have q51 : (gV τ45 12 0 6).toInt = 1 := (congrArg Int32.toInt (show (gV τ45 12 0 6) = 1 from (show gV τ45 12 0 6 = 1 from gV_put eτ45 (gV_self _ _ _ _ _)))).trans kt_1
  exact J5 ((400 - (gV τ45 12 0 5).toInt).toNat + 1) τ45 i46 f47 v48 (by first | (rw [show (gV τ45 12 0 5).toInt.toNat = i by omega]) | (rw [show (gV τ45 12 0 5).toInt.toNat = ((gV τ 12 0 5).toInt.toNat) + 1 by omega, sc_go (by omega) (isLe_t (by omega))]; exact nS)) (by omega) (Nat.lt_succ_self _)

abbrev MS_X6_passFiguresE : List (Nat × Nat) := [(12, 5), (12, 6), (12, 7)]
abbrev AS_X6_passFiguresE : List Nat := []
set_option maxHeartbeats 4000000 in
set_option maxRecDepth 100000 in
theorem c_X6_passFiguresE (l : Launch) (G : Gt) (σ : Sg) (T : Nat → Int) (N : Nat) (i : Nat) (hI : Inv σ) (hT : TpC σ T N) (hi5 : ((gV σ 12 0 5).toInt = (i : Int) ∧ (gV σ 12 0 4).toInt = (i : Int))) : Mc l G yX6_passFigures cX6_passFigures 1 none 1 20 0 0 [.ref (G.1 12 0)] σ (PV fun τ => Inv τ ∧ Fr MS_X6_passFiguresE AS_X6_passFiguresE σ τ ∧ ((gV τ 12 0 5).toInt = (sc isFi T i : Int) ∧ (((sc isFi T i : Int) ≤ i + 3 ∧ (gV τ 12 0 6).toInt = 2) ∨ ((i : Int) + 3 < (sc isFi T i : Int) ∧ (gV τ 12 0 6).toInt = 4)) ∧ ((sc isFi T i : Int) ≤ i + 3 → (gV τ 12 0 7).toInt = nv T i (sc isFi T i - i)))) := by
  refine Mc.of (L0 := [some (.ref (G.1 12 0))]) (by decide) (Nat.le_of_ble_eq_true rfl) rfl ?_
  intro p e s m args below meth c C hr hlk
  have C : Cx p s m args c cX6_passFigures 1 "LeanTower$Reader" := C
  have k0 : (0 : Int32).toInt = 0 := by decide
  have k1 : (1 : Int32).toInt = 1 := by decide
  have J5 : ∀ (n : Nat) (τ : Sg), Inv τ → Fr MS_X6_passFiguresE AS_X6_passFiguresE σ τ → (TpC τ T N) → (sc isFi T ((gV τ 12 0 5).toInt.toNat) = sc isFi T i) → (NVI T i (gV τ 12 0 5).toInt (gV τ 12 0 7).toInt) → ((gV τ 12 0 4).toInt = (i : Int)) → (400 - (gV τ 12 0 5).toInt).toNat < n → MW p l e { frames := 1, cells := 0, slots := 0, locals := 20 } s m args below meth c (MQ below (QP G (PV fun τ => Inv τ ∧ Fr MS_X6_passFiguresE AS_X6_passFiguresE σ τ ∧ ((gV τ 12 0 5).toInt = (sc isFi T i : Int) ∧ (((sc isFi T i : Int) ≤ i + 3 ∧ (gV τ 12 0 6).toInt = 2) ∨ ((i : Int) + 3 < (sc isFi T i : Int) ∧ (gV τ 12 0 6).toInt = 4)) ∧ ((sc isFi T i : Int) ≤ i + 3 → (gV τ 12 0 7).toInt = nv T i (sc isFi T i - i))))) args s 0 0 (aG G)) 1 G 0 0 5 [some (.ref (G.1 12 0))] [] τ := by
    intro n
    induction n with
    | zero => intro τ iτ fτ v_T nS nN n1 hm; exact absurd hm (Nat.not_lt_zero _)
    | succ n ih5 =>
      intro τ iτ fτ v_T nS nN n1 hm5
      have u2 : IV (gV τ 12 0 1) 0 400 := iτ.1 12 0 1
      have u3 : IV (gV τ 12 0 4) 0 400 := iτ.1 12 0 4
      have u4 : IV (gV τ 12 0 5) 0 400 := iτ.1 12 0 5
      have q5 : (gV τ 12 0 1).toInt = (N : Int) := v_T.1
      have q6 := v_T.2.1
      refine m_aload_n C dX6_passFigures_5 rfl rfl ?_
      refine g_12_5 C q1_45 dX6_passFigures_6 ?_
      refine m_eqs (w := (gV τ 12 0 5)) rfl ?_
      refine m_aload_n C dX6_passFigures_9 rfl rfl ?_
      refine g_12_1 C q1_38 dX6_passFigures_10 ?_
      refine m_eqs (w := (gV τ 12 0 1)) rfl ?_
      refine m_icmp_ge (tgt := 68) C dX6_passFigures_13 (by decide) (fun c7 => ?_) (fun c7 => ?_)
      · have f8 : (gV τ 12 0 1).toInt ≤ (gV τ 12 0 5).toInt := by
          have q : _ := c7
          simp only [ti_nle, ti_nlt, ti_le, ti_lt, ti_eq, ti_ne, Classical.not_not] at q
          omega
        refine m_aload_n C dX6_passFigures_68 rfl rfl ?_
        refine m_aload_n C dX6_passFigures_69 rfl rfl ?_
        refine g_12_5 C q1_45 dX6_passFigures_70 ?_
        refine m_eqs (w := (gV τ 12 0 5)) rfl ?_
        refine m_aload_n C dX6_passFigures_73 rfl rfl ?_
        refine g_12_4 C q1_44 dX6_passFigures_74 ?_
        refine m_eqs (w := (gV τ 12 0 4)) rfl ?_
        refine m_isub C dX6_passFigures_77 ?_
        refine m_topi (fun x9 ex9 => ?_)
        have tx9 : x9.toInt = (gV τ 12 0 5).toInt - (gV τ 12 0 4).toInt := by rw [ex9, ti_subv u4 u3 (by decide)]
        have b10 : IV x9 (-400) 400 := by rw [ex9]; exact iv_sub u4 u3 (by decide)
        refine m_iconst (v := 3) C dX6_passFigures_78 (by decide) ?_
        refine m_icmp_gt (tgt := 86) C dX6_passFigures_79 (by decide) (fun c11 => ?_) (fun c11 => ?_)
        · have f12 : 3 < x9.toInt := by
            have q : _ := c11
            simp only [ti_nle, ti_nlt, ti_le, ti_lt, ti_eq, ti_ne, Classical.not_not, kt_3] at q
            omega
          have b13 : IV x9 4 400 := ⟨by have q1 := kc_3; have q2 := b10; omega, by have q1 := kc_3; have q2 := b10; omega⟩
          refine m_iconst (v := 4) C dX6_passFigures_86 (by decide) ?_
          refine p_12_6 C q1_46 dX6_passFigures_87 ?_
          refine m_tops (fun τ14 eτ14 => ?_)
          have i15 : Inv τ14 := eτ14 ▸ Inv.putF iτ (by decide) rfl
          have f16 : Fr MS_X6_passFiguresE AS_X6_passFiguresE σ τ14 := eτ14 ▸ Fr.put (fτ) (Or.inl (by decide))
          have v17 : TpC τ14 T N := v_T.put eτ14 (Or.inr (by decide)) (by decide)
          have q18 : (gV τ14 12 0 1).toInt = (gV τ 12 0 1).toInt := congrArg Int32.toInt (show (gV τ14 12 0 1) = (gV τ 12 0 1) from (show gV τ14 12 0 1 = (gV τ 12 0 1) from gV_put eτ14 rfl))
          have q19 : (gV τ14 12 0 4).toInt = (gV τ 12 0 4).toInt := congrArg Int32.toInt (show (gV τ14 12 0 4) = (gV τ 12 0 4) from (show gV τ14 12 0 4 = (gV τ 12 0 4) from gV_put eτ14 rfl))
          have q20 : (gV τ14 12 0 5).toInt = (gV τ 12 0 5).toInt := congrArg Int32.toInt (show (gV τ14 12 0 5) = (gV τ 12 0 5) from (show gV τ14 12 0 5 = (gV τ 12 0 5) from gV_put eτ14 rfl))
          have q21 : (gV τ14 12 0 7).toInt = (gV τ 12 0 7).toInt := congrArg Int32.toInt (show (gV τ14 12 0 7) = (gV τ 12 0 7) from (show gV τ14 12 0 7 = (gV τ 12 0 7) from gV_put eτ14 rfl))
          have q22 : (gV τ14 12 0 6).toInt = 4 := (congrArg Int32.toInt (show (gV τ14 12 0 6) = 4 from (show gV τ14 12 0 6 = 4 from gV_put eτ14 (gV_self _ _ _ _ _)))).trans kt_4
          exact m_vret C hr hlk (by decide) (by decide) dX6_passFigures_90 ⟨rfl, i15, f16, (by have q0 := sc_no (P := isFi) (T := T) (i := ((gV τ 12 0 5).toInt.toNat)) (isFi_f (by first | omega | (have q2 := v17.2.2.2 ((gV τ 12 0 5).toInt.toNat) (by omega); omega))); have q3 := nS; refine ⟨by omega, by omega, fun g => ?_⟩; have q7 := nN.val (by omega) (by omega); omega)⟩
        · have f23 : x9.toInt ≤ 3 := by
            have q : _ := c11
            simp only [ti_nle, ti_nlt, ti_le, ti_lt, ti_eq, ti_ne, Classical.not_not, kt_3] at q
            omega
          have b24 : IV x9 (-400) 3 := ⟨by have q1 := b10; have q2 := kc_3; omega, by have q1 := b10; have q2 := kc_3; omega⟩
          refine m_iconst (v := 2) C dX6_passFigures_82 (by decide) ?_
          refine m_goto (tgt := 87) C dX6_passFigures_83 (by decide) ?_
          refine p_12_6 C q1_46 dX6_passFigures_87 ?_
          refine m_tops (fun τ25 eτ25 => ?_)
          have i26 : Inv τ25 := eτ25 ▸ Inv.putF iτ (by decide) rfl
          have f27 : Fr MS_X6_passFiguresE AS_X6_passFiguresE σ τ25 := eτ25 ▸ Fr.put (fτ) (Or.inl (by decide))
          have v28 : TpC τ25 T N := v_T.put eτ25 (Or.inr (by decide)) (by decide)
          have q29 : (gV τ25 12 0 1).toInt = (gV τ 12 0 1).toInt := congrArg Int32.toInt (show (gV τ25 12 0 1) = (gV τ 12 0 1) from (show gV τ25 12 0 1 = (gV τ 12 0 1) from gV_put eτ25 rfl))
          have q30 : (gV τ25 12 0 4).toInt = (gV τ 12 0 4).toInt := congrArg Int32.toInt (show (gV τ25 12 0 4) = (gV τ 12 0 4) from (show gV τ25 12 0 4 = (gV τ 12 0 4) from gV_put eτ25 rfl))
          have q31 : (gV τ25 12 0 5).toInt = (gV τ 12 0 5).toInt := congrArg Int32.toInt (show (gV τ25 12 0 5) = (gV τ 12 0 5) from (show gV τ25 12 0 5 = (gV τ 12 0 5) from gV_put eτ25 rfl))
          have q32 : (gV τ25 12 0 7).toInt = (gV τ 12 0 7).toInt := congrArg Int32.toInt (show (gV τ25 12 0 7) = (gV τ 12 0 7) from (show gV τ25 12 0 7 = (gV τ 12 0 7) from gV_put eτ25 rfl))
          have q33 : (gV τ25 12 0 6).toInt = 2 := (congrArg Int32.toInt (show (gV τ25 12 0 6) = 2 from (show gV τ25 12 0 6 = 2 from gV_put eτ25 (gV_self _ _ _ _ _)))).trans kt_2
          exact m_vret C hr hlk (by decide) (by decide) dX6_passFigures_90 ⟨rfl, i26, f27, (by have q0 := sc_no (P := isFi) (T := T) (i := ((gV τ 12 0 5).toInt.toNat)) (isFi_f (by first | omega | (have q2 := v28.2.2.2 ((gV τ 12 0 5).toInt.toNat) (by omega); omega))); have q3 := nS; refine ⟨by omega, by omega, fun g => ?_⟩; have q7 := nN.val (by omega) (by omega); omega)⟩
      · have f34 : (gV τ 12 0 5).toInt < (gV τ 12 0 1).toInt := by
          have q : _ := c7
          simp only [ti_nle, ti_nlt, ti_le, ti_lt, ti_eq, ti_ne, Classical.not_not] at q
          omega
        have b35 : IV (gV τ 12 0 5) 0 399 := ⟨by have q1 := u4; have q2 := u2; omega, by have q1 := u4; have q2 := u2; omega⟩
        have b36 : IV (gV τ 12 0 1) 1 400 := ⟨by have q1 := u4; have q2 := u2; omega, by have q1 := u4; have q2 := u2; omega⟩
        refine m_aload_n C dX6_passFigures_16 rfl rfl ?_
        refine g_12_0 C q1_37 dX6_passFigures_17 ?_
        refine m_aload_n C dX6_passFigures_20 rfl rfl ?_
        refine g_12_5 C q1_45 dX6_passFigures_21 ?_
        refine m_eqs (w := (gV τ 12 0 5)) rfl ?_
        refine al_13 C b35 (by decide) rfl dX6_passFigures_24 ?_
        refine m_topi (fun x37 ex37 => ?_)
        have q38 := v_T.2.2.1 ((gV τ 12 0 5).toInt.toNat) (by omega)
        rw [show gV τ 13 0 ((gV τ 12 0 5).toInt.toNat) = x37 from ex37.symm] at q38
        refine m_callS (n := 1) (st := []) C (c_X6_isFigureE l G τ (x37) iτ ) q2_76 q2_74 q2_75 q1_2 (by decide +kernel) rfl (by decide) (by decide) rfl (Nat.le_of_ble_eq_true rfl) dX6_passFigures_25 ?_
        rintro _ τ39 ⟨x42, rfl, i40, f41, b43, h45⟩
        have g44 : Fr MS_X6_passFiguresE AS_X6_passFiguresE σ τ39 := Fr.call (fτ) f41 (by decide)
        have v46 : TpC τ39 T N := v_T.fr f41 (by decide) (by decide) (by simp) (by decide)
        have q47 : (gV τ39 12 0 1).toInt = (gV τ 12 0 1).toInt := congrArg Int32.toInt (show (gV τ39 12 0 1) = (gV τ 12 0 1) from (show gV τ39 12 0 1 = (gV τ 12 0 1) from (f41.1 12 0 (1) (by decide) (by decide)).trans rfl))
        have q48 : (gV τ39 12 0 4).toInt = (gV τ 12 0 4).toInt := congrArg Int32.toInt (show (gV τ39 12 0 4) = (gV τ 12 0 4) from (show gV τ39 12 0 4 = (gV τ 12 0 4) from (f41.1 12 0 (4) (by decide) (by decide)).trans rfl))
        have q49 : (gV τ39 12 0 5).toInt = (gV τ 12 0 5).toInt := congrArg Int32.toInt (show (gV τ39 12 0 5) = (gV τ 12 0 5) from (show gV τ39 12 0 5 = (gV τ 12 0 5) from (f41.1 12 0 (5) (by decide) (by decide)).trans rfl))
        have q50 : (gV τ39 12 0 6).toInt = (gV τ 12 0 6).toInt := congrArg Int32.toInt (show (gV τ39 12 0 6) = (gV τ 12 0 6) from (show gV τ39 12 0 6 = (gV τ 12 0 6) from (f41.1 12 0 (6) (by decide) (by decide)).trans rfl))
        have q51 : (gV τ39 12 0 7).toInt = (gV τ 12 0 7).toInt := congrArg Int32.toInt (show (gV τ39 12 0 7) = (gV τ 12 0 7) from (show gV τ39 12 0 7 = (gV τ 12 0 7) from (f41.1 12 0 (7) (by decide) (by decide)).trans rfl))
        rcases h45 with ⟨h45_0, h45_1, h45_2⟩ | ⟨h45_0, h45_1⟩
        · skip
          have b52 : IV x42 1 1 := ⟨by omega, by omega⟩
          show MW p l e _ s m args below meth c _ 1 G 0 0 28 [some (.ref (G.1 12 0))] [.int x42] τ39
          refine m_if_eq (tgt := 68) C dX6_passFigures_28 (by decide) (fun c53 => ?_) (fun c53 => ?_)
          · exfalso
            have q : _ := c53
            simp only [ti_nle, ti_nlt, ti_le, ti_lt, ti_eq, ti_ne, Classical.not_not, kt_0] at q
            have q1 := b52; have q2 := kc_0; omega
          · have f55 : x42.toInt ≠ 0 := by
              have q : _ := c53
              simp only [ti_nle, ti_nlt, ti_le, ti_lt, ti_eq, ti_ne, Classical.not_not, kt_0] at q
              omega
            refine m_aload_n C dX6_passFigures_31 rfl rfl ?_
            refine m_bipush (v := 10) C dX6_passFigures_32 (by decide) ?_
            refine m_aload_n C dX6_passFigures_34 rfl rfl ?_
            refine g_12_7 C q1_47 dX6_passFigures_35 ?_
            refine m_eqs (w := (gV τ 12 0 7)) (show gV τ39 12 0 7 = (gV τ 12 0 7) from (f41.1 12 0 (7) (by decide) (by decide)).trans rfl) ?_
            refine m_imul C dX6_passFigures_38 ?_
            refine m_topi (fun x56 ex56 => ?_)
            refine m_aload_n C dX6_passFigures_39 rfl rfl ?_
            refine g_12_0 C q1_37 dX6_passFigures_40 ?_
            refine m_aload_n C dX6_passFigures_43 rfl rfl ?_
            refine g_12_5 C q1_45 dX6_passFigures_44 ?_
            refine m_eqs (w := (gV τ 12 0 5)) (show gV τ39 12 0 5 = (gV τ 12 0 5) from (f41.1 12 0 (5) (by decide) (by decide)).trans rfl) ?_
            refine al_13 C b35 (by decide) rfl dX6_passFigures_47 ?_
            refine m_eqs (w := x37) (show gV τ39 13 0 ((gV τ 12 0 5).toInt.toNat) = x37 from (f41.1 13 0 (((gV τ 12 0 5).toInt.toNat)) (by simp) (by decide)).trans ex37.symm) ?_
            refine m_iadd C dX6_passFigures_48 ?_
            refine m_topi (fun x57 ex57 => ?_)
            refine m_bipush (v := 48) C dX6_passFigures_49 (by decide) ?_
            refine m_isub C dX6_passFigures_51 ?_
            refine m_topi (fun x58 ex58 => ?_)
            refine p_12_7 C q1_47 dX6_passFigures_52 ?_
            refine m_tops (fun τ59 eτ59 => ?_)
            have i60 : Inv τ59 := eτ59 ▸ Inv.putF i40 (by decide) rfl
            have f61 : Fr MS_X6_passFiguresE AS_X6_passFiguresE σ τ59 := eτ59 ▸ Fr.put (g44) (Or.inl (by decide))
            have v62 : TpC τ59 T N := v46.put eτ59 (Or.inr (by decide)) (by decide)
            refine m_aload_n C dX6_passFigures_55 rfl rfl ?_
            refine m_dup C dX6_passFigures_56 rfl ?_
            refine g_12_5 C q1_45 dX6_passFigures_57 ?_
            refine m_eqs (w := (gV τ 12 0 5)) (show gV τ59 12 0 5 = (gV τ 12 0 5) from gV_put eτ59 (show gV τ39 12 0 5 = (gV τ 12 0 5) from (f41.1 12 0 (5) (by decide) (by decide)).trans rfl)) ?_
            refine m_iconst (v := 1) C dX6_passFigures_60 (by decide) ?_
            refine m_iadd C dX6_passFigures_61 ?_
            refine m_topi (fun x63 ex63 => ?_)
            have tx63 : x63.toInt = (gV τ 12 0 5).toInt + 1 := by rw [ex63, ti_addv b35 kc_1 (by decide), kt_1]
            have b64 : IV x63 1 400 := by rw [ex63]; exact iv_add b35 kc_1 (by decide)
            refine p_12_5 C q1_45 dX6_passFigures_62 ?_
            refine m_tops (fun τ65 eτ65 => ?_)
            have i66 : Inv τ65 := eτ65 ▸ Inv.put i60 (by decide) (iv_wk b64 (by decide))
            have f67 : Fr MS_X6_passFiguresE AS_X6_passFiguresE σ τ65 := eτ65 ▸ Fr.put (f61) (Or.inl (by decide))
            have v68 : TpC τ65 T N := v62.put eτ65 (Or.inr (by decide)) (by decide)
            refine m_goto (tgt := 5) C dX6_passFigures_65 (by decide) ?_
            have q69 : (gV τ65 12 0 1).toInt = (gV τ 12 0 1).toInt := congrArg Int32.toInt (show (gV τ65 12 0 1) = (gV τ 12 0 1) from (show gV τ65 12 0 1 = (gV τ 12 0 1) from gV_put eτ65 (show gV τ59 12 0 1 = (gV τ 12 0 1) from gV_put eτ59 (show gV τ39 12 0 1 = (gV τ 12 0 1) from (f41.1 12 0 (1) (by decide) (by decide)).trans rfl))))
            have q70 : (gV τ65 12 0 4).toInt = (gV τ 12 0 4).toInt := congrArg Int32.toInt (show (gV τ65 12 0 4) = (gV τ 12 0 4) from (show gV τ65 12 0 4 = (gV τ 12 0 4) from gV_put eτ65 (show gV τ59 12 0 4 = (gV τ 12 0 4) from gV_put eτ59 (show gV τ39 12 0 4 = (gV τ 12 0 4) from (f41.1 12 0 (4) (by decide) (by decide)).trans rfl))))
            have q71 : (gV τ65 12 0 6).toInt = (gV τ 12 0 6).toInt := congrArg Int32.toInt (show (gV τ65 12 0 6) = (gV τ 12 0 6) from (show gV τ65 12 0 6 = (gV τ 12 0 6) from gV_put eτ65 (show gV τ59 12 0 6 = (gV τ 12 0 6) from gV_put eτ59 (show gV τ39 12 0 6 = (gV τ 12 0 6) from (f41.1 12 0 (6) (by decide) (by decide)).trans rfl))))
            have q72 : (gV τ65 12 0 7).toInt = x58.toInt := congrArg Int32.toInt (show (gV τ65 12 0 7) = x58 from (show gV τ65 12 0 7 = x58 from gV_put eτ65 (show gV τ59 12 0 7 = x58 from gV_put eτ59 (gV_self _ _ _ _ _))))
            have q73 : (gV τ65 12 0 5).toInt = x63.toInt := congrArg Int32.toInt (show (gV τ65 12 0 5) = x63 from (show gV τ65 12 0 5 = x63 from gV_put eτ65 (gV_self _ _ _ _ _)))
            exact ih5 τ65 i66 f67 v68 (by first | (rw [show (gV τ65 12 0 5).toInt.toNat = i by omega]) | (rw [show (gV τ65 12 0 5).toInt.toNat = ((gV τ 12 0 5).toInt.toNat) + 1 by omega, sc_go (by omega) (isFi_t (by omega))]; exact nS)) (nN.more (k := (gV τ 12 0 5).toInt.toNat) (by omega) (by omega) ⟨by omega, by omega⟩ (fun g => by have q5 := fig_step ex56 ex57 ex58 (by have q6 := nN.2 (by omega); omega) (by omega); omega)) (by omega) (by have q := hm5; omega)
        · skip
          have b74 : IV x42 0 0 := ⟨by omega, by omega⟩
          show MW p l e _ s m args below meth c _ 1 G 0 0 28 [some (.ref (G.1 12 0))] [.int x42] τ39
          refine m_if_eq (tgt := 68) C dX6_passFigures_28 (by decide) (fun c75 => ?_) (fun c75 => ?_)
          · have f76 : x42.toInt = 0 := by
              have q : _ := c75
              simp only [ti_nle, ti_nlt, ti_le, ti_lt, ti_eq, ti_ne, Classical.not_not, kt_0] at q
              omega
            refine m_aload_n C dX6_passFigures_68 rfl rfl ?_
            refine m_aload_n C dX6_passFigures_69 rfl rfl ?_
            refine g_12_5 C q1_45 dX6_passFigures_70 ?_
            refine m_eqs (w := (gV τ 12 0 5)) (show gV τ39 12 0 5 = (gV τ 12 0 5) from (f41.1 12 0 (5) (by decide) (by decide)).trans rfl) ?_
            refine m_aload_n C dX6_passFigures_73 rfl rfl ?_
            refine g_12_4 C q1_44 dX6_passFigures_74 ?_
            refine m_eqs (w := (gV τ 12 0 4)) (show gV τ39 12 0 4 = (gV τ 12 0 4) from (f41.1 12 0 (4) (by decide) (by decide)).trans rfl) ?_
            refine m_isub C dX6_passFigures_77 ?_
            refine m_topi (fun x77 ex77 => ?_)
            have tx77 : x77.toInt = (gV τ 12 0 5).toInt - (gV τ 12 0 4).toInt := by rw [ex77, ti_subv b35 u3 (by decide)]
            have b78 : IV x77 (-400) 399 := by rw [ex77]; exact iv_sub b35 u3 (by decide)
            refine m_iconst (v := 3) C dX6_passFigures_78 (by decide) ?_
            refine m_icmp_gt (tgt := 86) C dX6_passFigures_79 (by decide) (fun c79 => ?_) (fun c79 => ?_)
            · have f80 : 3 < x77.toInt := by
                have q : _ := c79
                simp only [ti_nle, ti_nlt, ti_le, ti_lt, ti_eq, ti_ne, Classical.not_not, kt_3] at q
                omega
              have b81 : IV x77 4 399 := ⟨by have q1 := kc_3; have q2 := b78; omega, by have q1 := kc_3; have q2 := b78; omega⟩
              refine m_iconst (v := 4) C dX6_passFigures_86 (by decide) ?_
              refine p_12_6 C q1_46 dX6_passFigures_87 ?_
              refine m_tops (fun τ82 eτ82 => ?_)
              have i83 : Inv τ82 := eτ82 ▸ Inv.putF i40 (by decide) rfl
              have f84 : Fr MS_X6_passFiguresE AS_X6_passFiguresE σ τ82 := eτ82 ▸ Fr.put (g44) (Or.inl (by decide))
              have v85 : TpC τ82 T N := v46.put eτ82 (Or.inr (by decide)) (by decide)
              have q86 : (gV τ82 12 0 1).toInt = (gV τ 12 0 1).toInt := congrArg Int32.toInt (show (gV τ82 12 0 1) = (gV τ 12 0 1) from (show gV τ82 12 0 1 = (gV τ 12 0 1) from gV_put eτ82 (show gV τ39 12 0 1 = (gV τ 12 0 1) from (f41.1 12 0 (1) (by decide) (by decide)).trans rfl)))
              have q87 : (gV τ82 12 0 4).toInt = (gV τ 12 0 4).toInt := congrArg Int32.toInt (show (gV τ82 12 0 4) = (gV τ 12 0 4) from (show gV τ82 12 0 4 = (gV τ 12 0 4) from gV_put eτ82 (show gV τ39 12 0 4 = (gV τ 12 0 4) from (f41.1 12 0 (4) (by decide) (by decide)).trans rfl)))
              have q88 : (gV τ82 12 0 5).toInt = (gV τ 12 0 5).toInt := congrArg Int32.toInt (show (gV τ82 12 0 5) = (gV τ 12 0 5) from (show gV τ82 12 0 5 = (gV τ 12 0 5) from gV_put eτ82 (show gV τ39 12 0 5 = (gV τ 12 0 5) from (f41.1 12 0 (5) (by decide) (by decide)).trans rfl)))
              have q89 : (gV τ82 12 0 7).toInt = (gV τ 12 0 7).toInt := congrArg Int32.toInt (show (gV τ82 12 0 7) = (gV τ 12 0 7) from (show gV τ82 12 0 7 = (gV τ 12 0 7) from gV_put eτ82 (show gV τ39 12 0 7 = (gV τ 12 0 7) from (f41.1 12 0 (7) (by decide) (by decide)).trans rfl)))
              have q90 : (gV τ82 12 0 6).toInt = 4 := (congrArg Int32.toInt (show (gV τ82 12 0 6) = 4 from (show gV τ82 12 0 6 = 4 from gV_put eτ82 (gV_self _ _ _ _ _)))).trans kt_4
              exact m_vret C hr hlk (by decide) (by decide) dX6_passFigures_90 ⟨rfl, i83, f84, (by have q0 := sc_no (P := isFi) (T := T) (i := ((gV τ 12 0 5).toInt.toNat)) (isFi_f (by first | omega | (have q2 := v85.2.2.2 ((gV τ 12 0 5).toInt.toNat) (by omega); omega))); have q3 := nS; refine ⟨by omega, by omega, fun g => ?_⟩; have q7 := nN.val (by omega) (by omega); omega)⟩
            · have f91 : x77.toInt ≤ 3 := by
                have q : _ := c79
                simp only [ti_nle, ti_nlt, ti_le, ti_lt, ti_eq, ti_ne, Classical.not_not, kt_3] at q
                omega
              have b92 : IV x77 (-400) 3 := ⟨by have q1 := b78; have q2 := kc_3; omega, by have q1 := b78; have q2 := kc_3; omega⟩
              refine m_iconst (v := 2) C dX6_passFigures_82 (by decide) ?_
              refine m_goto (tgt := 87) C dX6_passFigures_83 (by decide) ?_
              refine p_12_6 C q1_46 dX6_passFigures_87 ?_
              refine m_tops (fun τ93 eτ93 => ?_)
              have i94 : Inv τ93 := eτ93 ▸ Inv.putF i40 (by decide) rfl
              have f95 : Fr MS_X6_passFiguresE AS_X6_passFiguresE σ τ93 := eτ93 ▸ Fr.put (g44) (Or.inl (by decide))
              have v96 : TpC τ93 T N := v46.put eτ93 (Or.inr (by decide)) (by decide)
              have q97 : (gV τ93 12 0 1).toInt = (gV τ 12 0 1).toInt := congrArg Int32.toInt (show (gV τ93 12 0 1) = (gV τ 12 0 1) from (show gV τ93 12 0 1 = (gV τ 12 0 1) from gV_put eτ93 (show gV τ39 12 0 1 = (gV τ 12 0 1) from (f41.1 12 0 (1) (by decide) (by decide)).trans rfl)))
              have q98 : (gV τ93 12 0 4).toInt = (gV τ 12 0 4).toInt := congrArg Int32.toInt (show (gV τ93 12 0 4) = (gV τ 12 0 4) from (show gV τ93 12 0 4 = (gV τ 12 0 4) from gV_put eτ93 (show gV τ39 12 0 4 = (gV τ 12 0 4) from (f41.1 12 0 (4) (by decide) (by decide)).trans rfl)))
              have q99 : (gV τ93 12 0 5).toInt = (gV τ 12 0 5).toInt := congrArg Int32.toInt (show (gV τ93 12 0 5) = (gV τ 12 0 5) from (show gV τ93 12 0 5 = (gV τ 12 0 5) from gV_put eτ93 (show gV τ39 12 0 5 = (gV τ 12 0 5) from (f41.1 12 0 (5) (by decide) (by decide)).trans rfl)))
              have q100 : (gV τ93 12 0 7).toInt = (gV τ 12 0 7).toInt := congrArg Int32.toInt (show (gV τ93 12 0 7) = (gV τ 12 0 7) from (show gV τ93 12 0 7 = (gV τ 12 0 7) from gV_put eτ93 (show gV τ39 12 0 7 = (gV τ 12 0 7) from (f41.1 12 0 (7) (by decide) (by decide)).trans rfl)))
              have q101 : (gV τ93 12 0 6).toInt = 2 := (congrArg Int32.toInt (show (gV τ93 12 0 6) = 2 from (show gV τ93 12 0 6 = 2 from gV_put eτ93 (gV_self _ _ _ _ _)))).trans kt_2
              exact m_vret C hr hlk (by decide) (by decide) dX6_passFigures_90 ⟨rfl, i94, f95, (by have q0 := sc_no (P := isFi) (T := T) (i := ((gV τ 12 0 5).toInt.toNat)) (isFi_f (by first | omega | (have q2 := v96.2.2.2 ((gV τ 12 0 5).toInt.toNat) (by omega); omega))); have q3 := nS; refine ⟨by omega, by omega, fun g => ?_⟩; have q7 := nN.val (by omega) (by omega); omega)⟩
          · exfalso
            have q : _ := c75
            simp only [ti_nle, ti_nlt, ti_le, ti_lt, ti_eq, ti_ne, Classical.not_not, kt_0] at q
            have q1 := b74; have q2 := kc_0; omega
  have u103 : IV (gV σ 12 0 1) 0 400 := hI.1 12 0 1
  have u104 : IV (gV σ 12 0 4) 0 400 := hI.1 12 0 4
  have u105 : IV (gV σ 12 0 5) 0 400 := hI.1 12 0 5
  have q106 : (gV σ 12 0 1).toInt = (N : Int) := hT.1
  have q107 := hT.2.1
  refine m_aload_n C dX6_passFigures_0 rfl rfl ?_
  refine m_iconst (v := 0) C dX6_passFigures_1 (by decide) ?_
  refine p_12_7 C q1_47 dX6_passFigures_2 ?_
  refine m_tops (fun τ108 eτ108 => ?_)
  have i109 : Inv τ108 := eτ108 ▸ Inv.putF hI (by decide) rfl
  have f110 : Fr MS_X6_passFiguresE AS_X6_passFiguresE σ τ108 := eτ108 ▸ Fr.put (Fr.rf) (Or.inl (by decide))
  have v111 : TpC τ108 T N := hT.put eτ108 (Or.inr (by decide)) (by decide)
  have q112 : (gV τ108 12 0 1).toInt = (gV σ 12 0 1).toInt := congrArg Int32.toInt (show (gV τ108 12 0 1) = (gV σ 12 0 1) from (show gV τ108 12 0 1 = (gV σ 12 0 1) from gV_put eτ108 rfl))
  have q113 : (gV τ108 12 0 4).toInt = (gV σ 12 0 4).toInt := congrArg Int32.toInt (show (gV τ108 12 0 4) = (gV σ 12 0 4) from (show gV τ108 12 0 4 = (gV σ 12 0 4) from gV_put eτ108 rfl))
  have q114 : (gV τ108 12 0 5).toInt = (gV σ 12 0 5).toInt := congrArg Int32.toInt (show (gV τ108 12 0 5) = (gV σ 12 0 5) from (show gV τ108 12 0 5 = (gV σ 12 0 5) from gV_put eτ108 rfl))
  have q115 : (gV τ108 12 0 6).toInt = (gV σ 12 0 6).toInt := congrArg Int32.toInt (show (gV τ108 12 0 6) = (gV σ 12 0 6) from (show gV τ108 12 0 6 = (gV σ 12 0 6) from gV_put eτ108 rfl))
  have q116 : (gV τ108 12 0 7).toInt = 0 := (congrArg Int32.toInt (show (gV τ108 12 0 7) = 0 from (show gV τ108 12 0 7 = 0 from gV_put eτ108 (gV_self _ _ _ _ _)))).trans kt_0
  exact J5 ((400 - (gV τ108 12 0 5).toInt).toNat + 1) τ108 i109 f110 v111 (by first | (rw [show (gV τ108 12 0 5).toInt.toNat = i by omega]) | (rw [show (gV τ108 12 0 5).toInt.toNat = ((gV τ 12 0 5).toInt.toNat) + 1 by omega, sc_go (by omega) (isFi_t (by omega))]; exact nS)) (NVI.zero (by omega) (by omega)) (by omega) (Nat.lt_succ_self _)

abbrev MS_X6_nextE : List (Nat × Nat) := [(12, 4), (12, 5), (12, 6), (12, 7)]
abbrev AS_X6_nextE : List Nat := []
set_option maxHeartbeats 4000000 in
set_option maxRecDepth 100000 in
theorem c_X6_nextE (l : Launch) (G : Gt) (σ : Sg) (T : Nat → Int) (N : Nat) (i : Nat) (hI : Inv σ) (hT : TpC σ T N) (hi5 : (gV σ 12 0 5).toInt = (i : Int)) : Mc l G yX6_next cX6_next 1 none 2 40 0 0 [.ref (G.1 12 0)] σ (PV fun τ => Inv τ ∧ Fr MS_X6_nextE AS_X6_nextE σ τ ∧ ((gV τ 12 0 4).toInt = (tS T i : Int) ∧ (gV τ 12 0 5).toInt = (tE T N i : Int) ∧ (gV τ 12 0 6).toInt = tK T N i ∧ (tK T N i = 2 → (gV τ 12 0 7).toInt = tV T i))) := by
  refine Mc.of (L0 := [some (.ref (G.1 12 0))]) (by decide) (Nat.le_of_ble_eq_true rfl) rfl ?_
  intro p e s m args below meth c C hr hlk
  have C : Cx p s m args c cX6_next 1 "LeanTower$Reader" := C
  have k0 : (0 : Int32).toInt = 0 := by decide
  have k1 : (1 : Int32).toInt = 1 := by decide
  have J47 : ∀ (τ : Sg), Inv τ → Fr MS_X6_nextE AS_X6_nextE σ τ → (TpC τ T N) → ((gV τ 12 0 4).toInt = (tS T i : Int)) → MW p l e { frames := 2, cells := 0, slots := 0, locals := 40 } s m args below meth c (MQ below (QP G (PV fun τ => Inv τ ∧ Fr MS_X6_nextE AS_X6_nextE σ τ ∧ ((gV τ 12 0 4).toInt = (tS T i : Int) ∧ (gV τ 12 0 5).toInt = (tE T N i : Int) ∧ (gV τ 12 0 6).toInt = tK T N i ∧ (tK T N i = 2 → (gV τ 12 0 7).toInt = tV T i)))) args s 0 0 (aG G)) 1 G 0 0 47 [some (.ref (G.1 12 0))] [] τ := by
    intro τ iτ fτ v_T nE
    have u1 : IV (gV τ 12 0 1) 0 400 := iτ.1 12 0 1
    have u2 : IV (gV τ 12 0 4) 0 400 := iτ.1 12 0 4
    have u3 : IV (gV τ 12 0 5) 0 400 := iτ.1 12 0 5
    have q4 : (gV τ 12 0 1).toInt = (N : Int) := v_T.1
    have q5 := v_T.2.1
    refine m_aload_n C dX6_next_47 rfl rfl ?_
    refine m_aload_n C dX6_next_48 rfl rfl ?_
    refine g_12_4 C q1_44 dX6_next_49 ?_
    refine m_eqs (w := (gV τ 12 0 4)) rfl ?_
    refine p_12_5 C q1_45 dX6_next_52 ?_
    refine m_tops (fun τ6 eτ6 => ?_)
    have i7 : Inv τ6 := eτ6 ▸ Inv.put iτ (by decide) u2
    have f8 : Fr MS_X6_nextE AS_X6_nextE σ τ6 := eτ6 ▸ Fr.put (fτ) (Or.inl (by decide))
    have v9 : TpC τ6 T N := v_T.put eτ6 (Or.inr (by decide)) (by decide)
    refine m_aload_n C dX6_next_55 rfl rfl ?_
    refine g_12_4 C q1_44 dX6_next_56 ?_
    refine m_eqs (w := (gV τ 12 0 4)) (show gV τ6 12 0 4 = (gV τ 12 0 4) from gV_put eτ6 rfl) ?_
    refine m_aload_n C dX6_next_59 rfl rfl ?_
    refine g_12_1 C q1_38 dX6_next_60 ?_
    refine m_eqs (w := (gV τ 12 0 1)) (show gV τ6 12 0 1 = (gV τ 12 0 1) from gV_put eτ6 rfl) ?_
    refine m_icmp_lt (tgt := 74) C dX6_next_63 (by decide) (fun c10 => ?_) (fun c10 => ?_)
    · have f11 : (gV τ 12 0 4).toInt < (gV τ 12 0 1).toInt := by
        have q : _ := c10
        simp only [ti_nle, ti_nlt, ti_le, ti_lt, ti_eq, ti_ne, Classical.not_not] at q
        omega
      have b12 : IV (gV τ 12 0 4) 0 399 := ⟨by have q1 := u2; have q2 := u1; omega, by have q1 := u2; have q2 := u1; omega⟩
      have b13 : IV (gV τ 12 0 1) 1 400 := ⟨by have q1 := u2; have q2 := u1; omega, by have q1 := u2; have q2 := u1; omega⟩
      refine m_aload_n C dX6_next_74 rfl rfl ?_
      refine g_12_0 C q1_37 dX6_next_75 ?_
      refine m_aload_n C dX6_next_78 rfl rfl ?_
      refine g_12_4 C q1_44 dX6_next_79 ?_
      refine m_eqs (w := (gV τ 12 0 4)) (show gV τ6 12 0 4 = (gV τ 12 0 4) from gV_put eτ6 rfl) ?_
      refine al_13 C b12 (by decide) rfl dX6_next_82 ?_
      refine m_topi (fun x14 ex14 => ?_)
      have q15 := v9.2.2.1 ((gV τ 12 0 4).toInt.toNat) (by omega)
      rw [show gV τ6 13 0 ((gV τ 12 0 4).toInt.toNat) = x14 from ex14.symm] at q15
      have q16 : T (tS T i) = x14.toInt % 256 := by rw [show tS T i = ((gV τ 12 0 4).toInt.toNat) by omega]; exact q15.2.2
      have q17 : (gV τ6 12 0 1).toInt = (gV τ 12 0 1).toInt := congrArg Int32.toInt (show (gV τ6 12 0 1) = (gV τ 12 0 1) from (show gV τ6 12 0 1 = (gV τ 12 0 1) from gV_put eτ6 rfl))
      have q18 : (gV τ6 12 0 4).toInt = (gV τ 12 0 4).toInt := congrArg Int32.toInt (show (gV τ6 12 0 4) = (gV τ 12 0 4) from (show gV τ6 12 0 4 = (gV τ 12 0 4) from gV_put eτ6 rfl))
      have q19 : (gV τ6 12 0 6).toInt = (gV τ 12 0 6).toInt := congrArg Int32.toInt (show (gV τ6 12 0 6) = (gV τ 12 0 6) from (show gV τ6 12 0 6 = (gV τ 12 0 6) from gV_put eτ6 rfl))
      have q20 : (gV τ6 12 0 7).toInt = (gV τ 12 0 7).toInt := congrArg Int32.toInt (show (gV τ6 12 0 7) = (gV τ 12 0 7) from (show gV τ6 12 0 7 = (gV τ 12 0 7) from gV_put eτ6 rfl))
      have q21 : (gV τ6 12 0 5).toInt = (gV τ 12 0 4).toInt := congrArg Int32.toInt (show (gV τ6 12 0 5) = (gV τ 12 0 4) from (show gV τ6 12 0 5 = (gV τ 12 0 4) from gV_put eτ6 (gV_self _ _ _ _ _)))
      refine m_callS (n := 1) (st := []) C (c_X6_isLetterE l G τ6 (x14) i7 ) q2_69 q2_67 q2_68 q1_2 (by decide +kernel) rfl (by decide) (by decide) rfl (Nat.le_of_ble_eq_true rfl) dX6_next_83 ?_
      rintro _ τ22 ⟨x25, rfl, i23, f24, b26, h28⟩
      have g27 : Fr MS_X6_nextE AS_X6_nextE σ τ22 := Fr.call (f8) f24 (by decide)
      have v29 : TpC τ22 T N := v9.fr f24 (by decide) (by decide) (by simp) (by decide)
      have q30 : (gV τ22 12 0 1).toInt = (gV τ 12 0 1).toInt := congrArg Int32.toInt (show (gV τ22 12 0 1) = (gV τ 12 0 1) from (show gV τ22 12 0 1 = (gV τ 12 0 1) from (f24.1 12 0 (1) (by decide) (by decide)).trans (show gV τ6 12 0 1 = (gV τ 12 0 1) from gV_put eτ6 rfl)))
      have q31 : (gV τ22 12 0 4).toInt = (gV τ 12 0 4).toInt := congrArg Int32.toInt (show (gV τ22 12 0 4) = (gV τ 12 0 4) from (show gV τ22 12 0 4 = (gV τ 12 0 4) from (f24.1 12 0 (4) (by decide) (by decide)).trans (show gV τ6 12 0 4 = (gV τ 12 0 4) from gV_put eτ6 rfl)))
      have q32 : (gV τ22 12 0 6).toInt = (gV τ 12 0 6).toInt := congrArg Int32.toInt (show (gV τ22 12 0 6) = (gV τ 12 0 6) from (show gV τ22 12 0 6 = (gV τ 12 0 6) from (f24.1 12 0 (6) (by decide) (by decide)).trans (show gV τ6 12 0 6 = (gV τ 12 0 6) from gV_put eτ6 rfl)))
      have q33 : (gV τ22 12 0 7).toInt = (gV τ 12 0 7).toInt := congrArg Int32.toInt (show (gV τ22 12 0 7) = (gV τ 12 0 7) from (show gV τ22 12 0 7 = (gV τ 12 0 7) from (f24.1 12 0 (7) (by decide) (by decide)).trans (show gV τ6 12 0 7 = (gV τ 12 0 7) from gV_put eτ6 rfl)))
      have q34 : (gV τ22 12 0 5).toInt = (gV τ 12 0 4).toInt := congrArg Int32.toInt (show (gV τ22 12 0 5) = (gV τ 12 0 4) from (show gV τ22 12 0 5 = (gV τ 12 0 4) from (f24.1 12 0 (5) (by decide) (by decide)).trans (show gV τ6 12 0 5 = (gV τ 12 0 4) from gV_put eτ6 (gV_self _ _ _ _ _))))
      rcases h28 with ⟨h28_0, h28_1, h28_2⟩ | ⟨h28_0, h28_1⟩
      · skip
        have b35 : IV x25 1 1 := ⟨by omega, by omega⟩
        show MW p l e _ s m args below meth c _ 1 G 0 0 86 [some (.ref (G.1 12 0))] [.int x25] τ22
        refine m_if_eq (tgt := 96) C dX6_next_86 (by decide) (fun c36 => ?_) (fun c36 => ?_)
        · exfalso
          have q : _ := c36
          simp only [ti_nle, ti_nlt, ti_le, ti_lt, ti_eq, ti_ne, Classical.not_not, kt_0] at q
          have q1 := b35; have q2 := kc_0; omega
        · have f38 : x25.toInt ≠ 0 := by
            have q : _ := c36
            simp only [ti_nle, ti_nlt, ti_le, ti_lt, ti_eq, ti_ne, Classical.not_not, kt_0] at q
            omega
          refine m_aload_n C dX6_next_89 rfl rfl ?_
          refine m_callV (n := 0) (ci := 5) (st := []) C (c_X6_passLettersE l G τ22 T N (tS T i)  i23 v29 (by omega)) (by decide) (by decide) rfl rfl rfl q2_73 q2_70 q2_72 q0_4 q1_2 (by decide +kernel) rfl (by decide) (by decide) rfl (Nat.le_of_ble_eq_true rfl) dX6_next_90 ?_
          rintro _ τ39 ⟨rfl, i40, f41, h45⟩
          have g44 : Fr MS_X6_nextE AS_X6_nextE σ τ39 := Fr.call (g27) f41 (by decide)
          have v46 : TpC τ39 T N := v29.fr f41 (by decide) (by decide) (by simp) (by decide)
          have u47 : IV (gV τ39 12 0 5) 0 400 := i40.1 12 0 5
          have q48 : (gV τ39 12 0 1).toInt = (gV τ 12 0 1).toInt := congrArg Int32.toInt (show (gV τ39 12 0 1) = (gV τ 12 0 1) from (show gV τ39 12 0 1 = (gV τ 12 0 1) from (f41.1 12 0 (1) (by decide) (by decide)).trans (show gV τ22 12 0 1 = (gV τ 12 0 1) from (f24.1 12 0 (1) (by decide) (by decide)).trans (show gV τ6 12 0 1 = (gV τ 12 0 1) from gV_put eτ6 rfl))))
          have q49 : (gV τ39 12 0 4).toInt = (gV τ 12 0 4).toInt := congrArg Int32.toInt (show (gV τ39 12 0 4) = (gV τ 12 0 4) from (show gV τ39 12 0 4 = (gV τ 12 0 4) from (f41.1 12 0 (4) (by decide) (by decide)).trans (show gV τ22 12 0 4 = (gV τ 12 0 4) from (f24.1 12 0 (4) (by decide) (by decide)).trans (show gV τ6 12 0 4 = (gV τ 12 0 4) from gV_put eτ6 rfl))))
          have q50 : (gV τ39 12 0 7).toInt = (gV τ 12 0 7).toInt := congrArg Int32.toInt (show (gV τ39 12 0 7) = (gV τ 12 0 7) from (show gV τ39 12 0 7 = (gV τ 12 0 7) from (f41.1 12 0 (7) (by decide) (by decide)).trans (show gV τ22 12 0 7 = (gV τ 12 0 7) from (f24.1 12 0 (7) (by decide) (by decide)).trans (show gV τ6 12 0 7 = (gV τ 12 0 7) from gV_put eτ6 rfl))))
          show MW p l e _ s m args below meth c _ 1 G 0 0 93 [some (.ref (G.1 12 0))] [] τ39
          refine m_goto (tgt := 151) C dX6_next_93 (by decide) ?_
          exact m_vret C hr hlk (by decide) (by decide) dX6_next_151 ⟨rfl, i40, g44, (by have q0 := tok1 (T := T) (N := N) (i := i) (by omega) ⟨by omega, by omega⟩; omega)⟩
      · skip
        have b51 : IV x25 0 0 := ⟨by omega, by omega⟩
        show MW p l e _ s m args below meth c _ 1 G 0 0 86 [some (.ref (G.1 12 0))] [.int x25] τ22
        refine m_if_eq (tgt := 96) C dX6_next_86 (by decide) (fun c52 => ?_) (fun c52 => ?_)
        · have f53 : x25.toInt = 0 := by
            have q : _ := c52
            simp only [ti_nle, ti_nlt, ti_le, ti_lt, ti_eq, ti_ne, Classical.not_not, kt_0] at q
            omega
          refine m_aload_n C dX6_next_96 rfl rfl ?_
          refine g_12_0 C q1_37 dX6_next_97 ?_
          refine m_aload_n C dX6_next_100 rfl rfl ?_
          refine g_12_4 C q1_44 dX6_next_101 ?_
          refine m_eqs (w := (gV τ 12 0 4)) (show gV τ22 12 0 4 = (gV τ 12 0 4) from (f24.1 12 0 (4) (by decide) (by decide)).trans (show gV τ6 12 0 4 = (gV τ 12 0 4) from gV_put eτ6 rfl)) ?_
          refine al_13 C b12 (by decide) rfl dX6_next_104 ?_
          refine m_eqs (w := x14) (show gV τ22 13 0 ((gV τ 12 0 4).toInt.toNat) = x14 from (f24.1 13 0 (((gV τ 12 0 4).toInt.toNat)) (by simp) (by decide)).trans ex14.symm) ?_
          refine m_callS (n := 1) (st := []) C (c_X6_isFigureE l G τ22 (x14) i23 ) q2_76 q2_74 q2_75 q1_2 (by decide +kernel) rfl (by decide) (by decide) rfl (Nat.le_of_ble_eq_true rfl) dX6_next_105 ?_
          rintro _ τ54 ⟨x57, rfl, i55, f56, b58, h60⟩
          have g59 : Fr MS_X6_nextE AS_X6_nextE σ τ54 := Fr.call (g27) f56 (by decide)
          have v61 : TpC τ54 T N := v29.fr f56 (by decide) (by decide) (by simp) (by decide)
          have q62 : (gV τ54 12 0 1).toInt = (gV τ 12 0 1).toInt := congrArg Int32.toInt (show (gV τ54 12 0 1) = (gV τ 12 0 1) from (show gV τ54 12 0 1 = (gV τ 12 0 1) from (f56.1 12 0 (1) (by decide) (by decide)).trans (show gV τ22 12 0 1 = (gV τ 12 0 1) from (f24.1 12 0 (1) (by decide) (by decide)).trans (show gV τ6 12 0 1 = (gV τ 12 0 1) from gV_put eτ6 rfl))))
          have q63 : (gV τ54 12 0 4).toInt = (gV τ 12 0 4).toInt := congrArg Int32.toInt (show (gV τ54 12 0 4) = (gV τ 12 0 4) from (show gV τ54 12 0 4 = (gV τ 12 0 4) from (f56.1 12 0 (4) (by decide) (by decide)).trans (show gV τ22 12 0 4 = (gV τ 12 0 4) from (f24.1 12 0 (4) (by decide) (by decide)).trans (show gV τ6 12 0 4 = (gV τ 12 0 4) from gV_put eτ6 rfl))))
          have q64 : (gV τ54 12 0 6).toInt = (gV τ 12 0 6).toInt := congrArg Int32.toInt (show (gV τ54 12 0 6) = (gV τ 12 0 6) from (show gV τ54 12 0 6 = (gV τ 12 0 6) from (f56.1 12 0 (6) (by decide) (by decide)).trans (show gV τ22 12 0 6 = (gV τ 12 0 6) from (f24.1 12 0 (6) (by decide) (by decide)).trans (show gV τ6 12 0 6 = (gV τ 12 0 6) from gV_put eτ6 rfl))))
          have q65 : (gV τ54 12 0 7).toInt = (gV τ 12 0 7).toInt := congrArg Int32.toInt (show (gV τ54 12 0 7) = (gV τ 12 0 7) from (show gV τ54 12 0 7 = (gV τ 12 0 7) from (f56.1 12 0 (7) (by decide) (by decide)).trans (show gV τ22 12 0 7 = (gV τ 12 0 7) from (f24.1 12 0 (7) (by decide) (by decide)).trans (show gV τ6 12 0 7 = (gV τ 12 0 7) from gV_put eτ6 rfl))))
          have q66 : (gV τ54 12 0 5).toInt = (gV τ 12 0 4).toInt := congrArg Int32.toInt (show (gV τ54 12 0 5) = (gV τ 12 0 4) from (show gV τ54 12 0 5 = (gV τ 12 0 4) from (f56.1 12 0 (5) (by decide) (by decide)).trans (show gV τ22 12 0 5 = (gV τ 12 0 4) from (f24.1 12 0 (5) (by decide) (by decide)).trans (show gV τ6 12 0 5 = (gV τ 12 0 4) from gV_put eτ6 (gV_self _ _ _ _ _)))))
          rcases h60 with ⟨h60_0, h60_1, h60_2⟩ | ⟨h60_0, h60_1⟩
          · skip
            have b67 : IV x57 1 1 := ⟨by omega, by omega⟩
            show MW p l e _ s m args below meth c _ 1 G 0 0 108 [some (.ref (G.1 12 0))] [.int x57] τ54
            refine m_if_eq (tgt := 118) C dX6_next_108 (by decide) (fun c68 => ?_) (fun c68 => ?_)
            · exfalso
              have q : _ := c68
              simp only [ti_nle, ti_nlt, ti_le, ti_lt, ti_eq, ti_ne, Classical.not_not, kt_0] at q
              have q1 := b67; have q2 := kc_0; omega
            · have f70 : x57.toInt ≠ 0 := by
                have q : _ := c68
                simp only [ti_nle, ti_nlt, ti_le, ti_lt, ti_eq, ti_ne, Classical.not_not, kt_0] at q
                omega
              refine m_aload_n C dX6_next_111 rfl rfl ?_
              refine m_callV (n := 0) (ci := 5) (st := []) C (c_X6_passFiguresE l G τ54 T N (tS T i)  i55 v61 (by omega)) (by decide) (by decide) rfl rfl rfl q2_80 q2_77 q2_79 q0_5 q1_2 (by decide +kernel) rfl (by decide) (by decide) rfl (Nat.le_of_ble_eq_true rfl) dX6_next_112 ?_
              rintro _ τ71 ⟨rfl, i72, f73, h77⟩
              have g76 : Fr MS_X6_nextE AS_X6_nextE σ τ71 := Fr.call (g59) f73 (by decide)
              have v78 : TpC τ71 T N := v61.fr f73 (by decide) (by decide) (by simp) (by decide)
              have u79 : IV (gV τ71 12 0 5) 0 400 := i72.1 12 0 5
              have q80 : (gV τ71 12 0 1).toInt = (gV τ 12 0 1).toInt := congrArg Int32.toInt (show (gV τ71 12 0 1) = (gV τ 12 0 1) from (show gV τ71 12 0 1 = (gV τ 12 0 1) from (f73.1 12 0 (1) (by decide) (by decide)).trans (show gV τ54 12 0 1 = (gV τ 12 0 1) from (f56.1 12 0 (1) (by decide) (by decide)).trans (show gV τ22 12 0 1 = (gV τ 12 0 1) from (f24.1 12 0 (1) (by decide) (by decide)).trans (show gV τ6 12 0 1 = (gV τ 12 0 1) from gV_put eτ6 rfl)))))
              have q81 : (gV τ71 12 0 4).toInt = (gV τ 12 0 4).toInt := congrArg Int32.toInt (show (gV τ71 12 0 4) = (gV τ 12 0 4) from (show gV τ71 12 0 4 = (gV τ 12 0 4) from (f73.1 12 0 (4) (by decide) (by decide)).trans (show gV τ54 12 0 4 = (gV τ 12 0 4) from (f56.1 12 0 (4) (by decide) (by decide)).trans (show gV τ22 12 0 4 = (gV τ 12 0 4) from (f24.1 12 0 (4) (by decide) (by decide)).trans (show gV τ6 12 0 4 = (gV τ 12 0 4) from gV_put eτ6 rfl)))))
              show MW p l e _ s m args below meth c _ 1 G 0 0 115 [some (.ref (G.1 12 0))] [] τ71
              refine m_goto (tgt := 151) C dX6_next_115 (by decide) ?_
              exact m_vret C hr hlk (by decide) (by decide) dX6_next_151 ⟨rfl, i72, g76, (by have q0 := tok2 (T := T) (N := N) (i := i) (by omega) ⟨by omega, by omega⟩; refine ⟨by omega, by omega, by omega, fun g => ?_⟩; have q1 := h77.2.2 (by omega); show _ = nv T (tS T i) (sc isFi T (tS T i) - tS T i); omega)⟩
          · skip
            have b82 : IV x57 0 0 := ⟨by omega, by omega⟩
            show MW p l e _ s m args below meth c _ 1 G 0 0 108 [some (.ref (G.1 12 0))] [.int x57] τ54
            refine m_if_eq (tgt := 118) C dX6_next_108 (by decide) (fun c83 => ?_) (fun c83 => ?_)
            · have f84 : x57.toInt = 0 := by
                have q : _ := c83
                simp only [ti_nle, ti_nlt, ti_le, ti_lt, ti_eq, ti_ne, Classical.not_not, kt_0] at q
                omega
              refine m_aload_n C dX6_next_118 rfl rfl ?_
              refine m_aload_n C dX6_next_119 rfl rfl ?_
              refine g_12_0 C q1_37 dX6_next_120 ?_
              refine m_aload_n C dX6_next_123 rfl rfl ?_
              refine g_12_4 C q1_44 dX6_next_124 ?_
              refine m_eqs (w := (gV τ 12 0 4)) (show gV τ54 12 0 4 = (gV τ 12 0 4) from (f56.1 12 0 (4) (by decide) (by decide)).trans (show gV τ22 12 0 4 = (gV τ 12 0 4) from (f24.1 12 0 (4) (by decide) (by decide)).trans (show gV τ6 12 0 4 = (gV τ 12 0 4) from gV_put eτ6 rfl))) ?_
              refine al_13 C b12 (by decide) rfl dX6_next_127 ?_
              refine m_eqs (w := x14) (show gV τ54 13 0 ((gV τ 12 0 4).toInt.toNat) = x14 from (f56.1 13 0 (((gV τ 12 0 4).toInt.toNat)) (by simp) (by decide)).trans (show gV τ22 13 0 ((gV τ 12 0 4).toInt.toNat) = x14 from (f24.1 13 0 (((gV τ 12 0 4).toInt.toNat)) (by simp) (by decide)).trans ex14.symm)) ?_
              refine m_bipush (v := 59) C dX6_next_128 (by decide) ?_
              refine m_icmp_ne (tgt := 137) C dX6_next_130 (by decide) (fun c85 => ?_) (fun c85 => ?_)
              · have f86 : x14.toInt ≠ 59 := by
                  have q : _ := c85
                  simp only [ti_nle, ti_nlt, ti_le, ti_lt, ti_eq, ti_ne, Classical.not_not, kt_59] at q
                  omega
                refine m_iconst (v := 4) C dX6_next_137 (by decide) ?_
                refine p_12_6 C q1_46 dX6_next_138 ?_
                refine m_tops (fun τ87 eτ87 => ?_)
                have i88 : Inv τ87 := eτ87 ▸ Inv.putF i55 (by decide) rfl
                have f89 : Fr MS_X6_nextE AS_X6_nextE σ τ87 := eτ87 ▸ Fr.put (g59) (Or.inl (by decide))
                have v90 : TpC τ87 T N := v61.put eτ87 (Or.inr (by decide)) (by decide)
                refine m_aload_n C dX6_next_141 rfl rfl ?_
                refine m_dup C dX6_next_142 rfl ?_
                refine g_12_5 C q1_45 dX6_next_143 ?_
                refine m_eqs (w := (gV τ 12 0 4)) (show gV τ87 12 0 5 = (gV τ 12 0 4) from gV_put eτ87 (show gV τ54 12 0 5 = (gV τ 12 0 4) from (f56.1 12 0 (5) (by decide) (by decide)).trans (show gV τ22 12 0 5 = (gV τ 12 0 4) from (f24.1 12 0 (5) (by decide) (by decide)).trans (show gV τ6 12 0 5 = (gV τ 12 0 4) from gV_put eτ6 (gV_self _ _ _ _ _))))) ?_
                refine m_iconst (v := 1) C dX6_next_146 (by decide) ?_
                refine m_iadd C dX6_next_147 ?_
                refine m_topi (fun x91 ex91 => ?_)
                have tx91 : x91.toInt = (gV τ 12 0 4).toInt + 1 := by rw [ex91, ti_addv b12 kc_1 (by decide), kt_1]
                have b92 : IV x91 1 400 := by rw [ex91]; exact iv_add b12 kc_1 (by decide)
                refine p_12_5 C q1_45 dX6_next_148 ?_
                refine m_tops (fun τ93 eτ93 => ?_)
                have i94 : Inv τ93 := eτ93 ▸ Inv.put i88 (by decide) (iv_wk b92 (by decide))
                have f95 : Fr MS_X6_nextE AS_X6_nextE σ τ93 := eτ93 ▸ Fr.put (f89) (Or.inl (by decide))
                have v96 : TpC τ93 T N := v90.put eτ93 (Or.inr (by decide)) (by decide)
                have q97 : (gV τ93 12 0 1).toInt = (gV τ 12 0 1).toInt := congrArg Int32.toInt (show (gV τ93 12 0 1) = (gV τ 12 0 1) from (show gV τ93 12 0 1 = (gV τ 12 0 1) from gV_put eτ93 (show gV τ87 12 0 1 = (gV τ 12 0 1) from gV_put eτ87 (show gV τ54 12 0 1 = (gV τ 12 0 1) from (f56.1 12 0 (1) (by decide) (by decide)).trans (show gV τ22 12 0 1 = (gV τ 12 0 1) from (f24.1 12 0 (1) (by decide) (by decide)).trans (show gV τ6 12 0 1 = (gV τ 12 0 1) from gV_put eτ6 rfl))))))
                have q98 : (gV τ93 12 0 4).toInt = (gV τ 12 0 4).toInt := congrArg Int32.toInt (show (gV τ93 12 0 4) = (gV τ 12 0 4) from (show gV τ93 12 0 4 = (gV τ 12 0 4) from gV_put eτ93 (show gV τ87 12 0 4 = (gV τ 12 0 4) from gV_put eτ87 (show gV τ54 12 0 4 = (gV τ 12 0 4) from (f56.1 12 0 (4) (by decide) (by decide)).trans (show gV τ22 12 0 4 = (gV τ 12 0 4) from (f24.1 12 0 (4) (by decide) (by decide)).trans (show gV τ6 12 0 4 = (gV τ 12 0 4) from gV_put eτ6 rfl))))))
                have q99 : (gV τ93 12 0 7).toInt = (gV τ 12 0 7).toInt := congrArg Int32.toInt (show (gV τ93 12 0 7) = (gV τ 12 0 7) from (show gV τ93 12 0 7 = (gV τ 12 0 7) from gV_put eτ93 (show gV τ87 12 0 7 = (gV τ 12 0 7) from gV_put eτ87 (show gV τ54 12 0 7 = (gV τ 12 0 7) from (f56.1 12 0 (7) (by decide) (by decide)).trans (show gV τ22 12 0 7 = (gV τ 12 0 7) from (f24.1 12 0 (7) (by decide) (by decide)).trans (show gV τ6 12 0 7 = (gV τ 12 0 7) from gV_put eτ6 rfl))))))
                have q100 : (gV τ93 12 0 6).toInt = 4 := (congrArg Int32.toInt (show (gV τ93 12 0 6) = 4 from (show gV τ93 12 0 6 = 4 from gV_put eτ93 (show gV τ87 12 0 6 = 4 from gV_put eτ87 (gV_self _ _ _ _ _))))).trans kt_4
                have q101 : (gV τ93 12 0 5).toInt = x91.toInt := congrArg Int32.toInt (show (gV τ93 12 0 5) = x91 from (show gV τ93 12 0 5 = x91 from gV_put eτ93 (gV_self _ _ _ _ _)))
                exact m_vret C hr hlk (by decide) (by decide) dX6_next_151 ⟨rfl, i94, f95, (by have q0 := tok3 (T := T) (N := N) (i := i) (by omega) (by omega) (by omega); omega)⟩
              · have f102 : x14.toInt = 59 := by
                  have q : _ := c85
                  simp only [ti_nle, ti_nlt, ti_le, ti_lt, ti_eq, ti_ne, Classical.not_not, kt_59] at q
                  omega
                have b103 : IV x14 59 59 := ⟨by have q1 := (iv_any x14); have q2 := kc_59; omega, by have q1 := (iv_any x14); have q2 := kc_59; omega⟩
                refine m_iconst (v := 3) C dX6_next_133 (by decide) ?_
                refine m_goto (tgt := 138) C dX6_next_134 (by decide) ?_
                refine p_12_6 C q1_46 dX6_next_138 ?_
                refine m_tops (fun τ104 eτ104 => ?_)
                have i105 : Inv τ104 := eτ104 ▸ Inv.putF i55 (by decide) rfl
                have f106 : Fr MS_X6_nextE AS_X6_nextE σ τ104 := eτ104 ▸ Fr.put (g59) (Or.inl (by decide))
                have v107 : TpC τ104 T N := v61.put eτ104 (Or.inr (by decide)) (by decide)
                refine m_aload_n C dX6_next_141 rfl rfl ?_
                refine m_dup C dX6_next_142 rfl ?_
                refine g_12_5 C q1_45 dX6_next_143 ?_
                refine m_eqs (w := (gV τ 12 0 4)) (show gV τ104 12 0 5 = (gV τ 12 0 4) from gV_put eτ104 (show gV τ54 12 0 5 = (gV τ 12 0 4) from (f56.1 12 0 (5) (by decide) (by decide)).trans (show gV τ22 12 0 5 = (gV τ 12 0 4) from (f24.1 12 0 (5) (by decide) (by decide)).trans (show gV τ6 12 0 5 = (gV τ 12 0 4) from gV_put eτ6 (gV_self _ _ _ _ _))))) ?_
                refine m_iconst (v := 1) C dX6_next_146 (by decide) ?_
                refine m_iadd C dX6_next_147 ?_
                refine m_topi (fun x108 ex108 => ?_)
                have tx108 : x108.toInt = (gV τ 12 0 4).toInt + 1 := by rw [ex108, ti_addv b12 kc_1 (by decide), kt_1]
                have b109 : IV x108 1 400 := by rw [ex108]; exact iv_add b12 kc_1 (by decide)
                refine p_12_5 C q1_45 dX6_next_148 ?_
                refine m_tops (fun τ110 eτ110 => ?_)
                have i111 : Inv τ110 := eτ110 ▸ Inv.put i105 (by decide) (iv_wk b109 (by decide))
                have f112 : Fr MS_X6_nextE AS_X6_nextE σ τ110 := eτ110 ▸ Fr.put (f106) (Or.inl (by decide))
                have v113 : TpC τ110 T N := v107.put eτ110 (Or.inr (by decide)) (by decide)
                have q114 : (gV τ110 12 0 1).toInt = (gV τ 12 0 1).toInt := congrArg Int32.toInt (show (gV τ110 12 0 1) = (gV τ 12 0 1) from (show gV τ110 12 0 1 = (gV τ 12 0 1) from gV_put eτ110 (show gV τ104 12 0 1 = (gV τ 12 0 1) from gV_put eτ104 (show gV τ54 12 0 1 = (gV τ 12 0 1) from (f56.1 12 0 (1) (by decide) (by decide)).trans (show gV τ22 12 0 1 = (gV τ 12 0 1) from (f24.1 12 0 (1) (by decide) (by decide)).trans (show gV τ6 12 0 1 = (gV τ 12 0 1) from gV_put eτ6 rfl))))))
                have q115 : (gV τ110 12 0 4).toInt = (gV τ 12 0 4).toInt := congrArg Int32.toInt (show (gV τ110 12 0 4) = (gV τ 12 0 4) from (show gV τ110 12 0 4 = (gV τ 12 0 4) from gV_put eτ110 (show gV τ104 12 0 4 = (gV τ 12 0 4) from gV_put eτ104 (show gV τ54 12 0 4 = (gV τ 12 0 4) from (f56.1 12 0 (4) (by decide) (by decide)).trans (show gV τ22 12 0 4 = (gV τ 12 0 4) from (f24.1 12 0 (4) (by decide) (by decide)).trans (show gV τ6 12 0 4 = (gV τ 12 0 4) from gV_put eτ6 rfl))))))
                have q116 : (gV τ110 12 0 7).toInt = (gV τ 12 0 7).toInt := congrArg Int32.toInt (show (gV τ110 12 0 7) = (gV τ 12 0 7) from (show gV τ110 12 0 7 = (gV τ 12 0 7) from gV_put eτ110 (show gV τ104 12 0 7 = (gV τ 12 0 7) from gV_put eτ104 (show gV τ54 12 0 7 = (gV τ 12 0 7) from (f56.1 12 0 (7) (by decide) (by decide)).trans (show gV τ22 12 0 7 = (gV τ 12 0 7) from (f24.1 12 0 (7) (by decide) (by decide)).trans (show gV τ6 12 0 7 = (gV τ 12 0 7) from gV_put eτ6 rfl))))))
                have q117 : (gV τ110 12 0 6).toInt = 3 := (congrArg Int32.toInt (show (gV τ110 12 0 6) = 3 from (show gV τ110 12 0 6 = 3 from gV_put eτ110 (show gV τ104 12 0 6 = 3 from gV_put eτ104 (gV_self _ _ _ _ _))))).trans kt_3
                have q118 : (gV τ110 12 0 5).toInt = x108.toInt := congrArg Int32.toInt (show (gV τ110 12 0 5) = x108 from (show gV τ110 12 0 5 = x108 from gV_put eτ110 (gV_self _ _ _ _ _)))
                exact m_vret C hr hlk (by decide) (by decide) dX6_next_151 ⟨rfl, i111, f112, (by have q0 := tok3 (T := T) (N := N) (i := i) (by omega) (by omega) (by omega); omega)⟩
            · exfalso
              have q : _ := c83
              simp only [ti_nle, ti_nlt, ti_le, ti_lt, ti_eq, ti_ne, Classical.not_not, kt_0] at q
              have q1 := b82; have q2 := kc_0; omega
        · exfalso
          have q : _ := c52
          simp only [ti_nle, ti_nlt, ti_le, ti_lt, ti_eq, ti_ne, Classical.not_not, kt_0] at q
          have q1 := b51; have q2 := kc_0; omega
    · have f121 : (gV τ 12 0 1).toInt ≤ (gV τ 12 0 4).toInt := by
        have q : _ := c10
        simp only [ti_nle, ti_nlt, ti_le, ti_lt, ti_eq, ti_ne, Classical.not_not] at q
        omega
      refine m_aload_n C dX6_next_66 rfl rfl ?_
      refine m_iconst (v := 0) C dX6_next_67 (by decide) ?_
      refine p_12_6 C q1_46 dX6_next_68 ?_
      refine m_tops (fun τ122 eτ122 => ?_)
      have i123 : Inv τ122 := eτ122 ▸ Inv.putF i7 (by decide) rfl
      have f124 : Fr MS_X6_nextE AS_X6_nextE σ τ122 := eτ122 ▸ Fr.put (f8) (Or.inl (by decide))
      have v125 : TpC τ122 T N := v9.put eτ122 (Or.inr (by decide)) (by decide)
      refine m_goto (tgt := 151) C dX6_next_71 (by decide) ?_
      have q126 : (gV τ122 12 0 1).toInt = (gV τ 12 0 1).toInt := congrArg Int32.toInt (show (gV τ122 12 0 1) = (gV τ 12 0 1) from (show gV τ122 12 0 1 = (gV τ 12 0 1) from gV_put eτ122 (show gV τ6 12 0 1 = (gV τ 12 0 1) from gV_put eτ6 rfl)))
      have q127 : (gV τ122 12 0 4).toInt = (gV τ 12 0 4).toInt := congrArg Int32.toInt (show (gV τ122 12 0 4) = (gV τ 12 0 4) from (show gV τ122 12 0 4 = (gV τ 12 0 4) from gV_put eτ122 (show gV τ6 12 0 4 = (gV τ 12 0 4) from gV_put eτ6 rfl)))
      have q128 : (gV τ122 12 0 7).toInt = (gV τ 12 0 7).toInt := congrArg Int32.toInt (show (gV τ122 12 0 7) = (gV τ 12 0 7) from (show gV τ122 12 0 7 = (gV τ 12 0 7) from gV_put eτ122 (show gV τ6 12 0 7 = (gV τ 12 0 7) from gV_put eτ6 rfl)))
      have q129 : (gV τ122 12 0 5).toInt = (gV τ 12 0 4).toInt := congrArg Int32.toInt (show (gV τ122 12 0 5) = (gV τ 12 0 4) from (show gV τ122 12 0 5 = (gV τ 12 0 4) from gV_put eτ122 (show gV τ6 12 0 5 = (gV τ 12 0 4) from gV_put eτ6 (gV_self _ _ _ _ _))))
      have q130 : (gV τ122 12 0 6).toInt = 0 := (congrArg Int32.toInt (show (gV τ122 12 0 6) = 0 from (show gV τ122 12 0 6 = 0 from gV_put eτ122 (gV_self _ _ _ _ _)))).trans kt_0
      exact m_vret C hr hlk (by decide) (by decide) dX6_next_151 ⟨rfl, i123, f124, (by have q0 := tok0 (T := T) (N := N) (i := i) (by omega); omega)⟩
  have J8 : ∀ (n : Nat) (τ : Sg), Inv τ → Fr MS_X6_nextE AS_X6_nextE σ τ → (TpC τ T N) → (sc isBl T ((gV τ 12 0 4).toInt.toNat) = tS T i) → (400 - (gV τ 12 0 4).toInt).toNat < n → MW p l e { frames := 2, cells := 0, slots := 0, locals := 40 } s m args below meth c (MQ below (QP G (PV fun τ => Inv τ ∧ Fr MS_X6_nextE AS_X6_nextE σ τ ∧ ((gV τ 12 0 4).toInt = (tS T i : Int) ∧ (gV τ 12 0 5).toInt = (tE T N i : Int) ∧ (gV τ 12 0 6).toInt = tK T N i ∧ (tK T N i = 2 → (gV τ 12 0 7).toInt = tV T i)))) args s 0 0 (aG G)) 1 G 0 0 8 [some (.ref (G.1 12 0))] [] τ := by
    intro n
    induction n with
    | zero => intro τ iτ fτ v_T nS hm; exact absurd hm (Nat.not_lt_zero _)
    | succ n ih8 =>
      intro τ iτ fτ v_T nS hm8
      have u131 : IV (gV τ 12 0 1) 0 400 := iτ.1 12 0 1
      have u132 : IV (gV τ 12 0 4) 0 400 := iτ.1 12 0 4
      have u133 : IV (gV τ 12 0 5) 0 400 := iτ.1 12 0 5
      have q134 : (gV τ 12 0 1).toInt = (N : Int) := v_T.1
      have q135 := v_T.2.1
      refine m_aload_n C dX6_next_8 rfl rfl ?_
      refine g_12_4 C q1_44 dX6_next_9 ?_
      refine m_eqs (w := (gV τ 12 0 4)) rfl ?_
      refine m_aload_n C dX6_next_12 rfl rfl ?_
      refine g_12_1 C q1_38 dX6_next_13 ?_
      refine m_eqs (w := (gV τ 12 0 1)) rfl ?_
      refine m_icmp_ge (tgt := 47) C dX6_next_16 (by decide) (fun c136 => ?_) (fun c136 => ?_)
      · have f137 : (gV τ 12 0 1).toInt ≤ (gV τ 12 0 4).toInt := by
          have q : _ := c136
          simp only [ti_nle, ti_nlt, ti_le, ti_lt, ti_eq, ti_ne, Classical.not_not] at q
          omega
        exact J47 τ iτ fτ v_T (by have q0 := sc_no (P := isBl) (T := T) (i := ((gV τ 12 0 4).toInt.toNat)) (isBl_f (by first | omega | (have q2 := v_T.2.2.2 ((gV τ 12 0 4).toInt.toNat) (by omega); omega))); have q3 := nS; omega)
      · have f138 : (gV τ 12 0 4).toInt < (gV τ 12 0 1).toInt := by
          have q : _ := c136
          simp only [ti_nle, ti_nlt, ti_le, ti_lt, ti_eq, ti_ne, Classical.not_not] at q
          omega
        have b139 : IV (gV τ 12 0 4) 0 399 := ⟨by have q1 := u132; have q2 := u131; omega, by have q1 := u132; have q2 := u131; omega⟩
        have b140 : IV (gV τ 12 0 1) 1 400 := ⟨by have q1 := u132; have q2 := u131; omega, by have q1 := u132; have q2 := u131; omega⟩
        refine m_aload_n C dX6_next_19 rfl rfl ?_
        refine g_12_0 C q1_37 dX6_next_20 ?_
        refine m_aload_n C dX6_next_23 rfl rfl ?_
        refine g_12_4 C q1_44 dX6_next_24 ?_
        refine m_eqs (w := (gV τ 12 0 4)) rfl ?_
        refine al_13 C b139 (by decide) rfl dX6_next_27 ?_
        refine m_topi (fun x141 ex141 => ?_)
        have q142 := v_T.2.2.1 ((gV τ 12 0 4).toInt.toNat) (by omega)
        rw [show gV τ 13 0 ((gV τ 12 0 4).toInt.toNat) = x141 from ex141.symm] at q142
        refine m_callS (n := 1) (st := []) C (c_X6_isBlankE l G τ (x141) iτ ) q2_66 q2_64 q2_65 q1_2 (by decide +kernel) rfl (by decide) (by decide) rfl (Nat.le_of_ble_eq_true rfl) dX6_next_28 ?_
        rintro _ τ143 ⟨x146, rfl, i144, f145, b147, h149⟩
        have g148 : Fr MS_X6_nextE AS_X6_nextE σ τ143 := Fr.call (fτ) f145 (by decide)
        have v150 : TpC τ143 T N := v_T.fr f145 (by decide) (by decide) (by simp) (by decide)
        have q151 : (gV τ143 12 0 1).toInt = (gV τ 12 0 1).toInt := congrArg Int32.toInt (show (gV τ143 12 0 1) = (gV τ 12 0 1) from (show gV τ143 12 0 1 = (gV τ 12 0 1) from (f145.1 12 0 (1) (by decide) (by decide)).trans rfl))
        have q152 : (gV τ143 12 0 4).toInt = (gV τ 12 0 4).toInt := congrArg Int32.toInt (show (gV τ143 12 0 4) = (gV τ 12 0 4) from (show gV τ143 12 0 4 = (gV τ 12 0 4) from (f145.1 12 0 (4) (by decide) (by decide)).trans rfl))
        have q153 : (gV τ143 12 0 5).toInt = (gV τ 12 0 5).toInt := congrArg Int32.toInt (show (gV τ143 12 0 5) = (gV τ 12 0 5) from (show gV τ143 12 0 5 = (gV τ 12 0 5) from (f145.1 12 0 (5) (by decide) (by decide)).trans rfl))
        have q154 : (gV τ143 12 0 6).toInt = (gV τ 12 0 6).toInt := congrArg Int32.toInt (show (gV τ143 12 0 6) = (gV τ 12 0 6) from (show gV τ143 12 0 6 = (gV τ 12 0 6) from (f145.1 12 0 (6) (by decide) (by decide)).trans rfl))
        have q155 : (gV τ143 12 0 7).toInt = (gV τ 12 0 7).toInt := congrArg Int32.toInt (show (gV τ143 12 0 7) = (gV τ 12 0 7) from (show gV τ143 12 0 7 = (gV τ 12 0 7) from (f145.1 12 0 (7) (by decide) (by decide)).trans rfl))
        rcases h149 with ⟨h149_0, h149_1⟩ | ⟨h149_0, h149_1, h149_2⟩
        · skip
          have b156 : IV x146 1 1 := ⟨by omega, by omega⟩
          show MW p l e _ s m args below meth c _ 1 G 0 0 31 [some (.ref (G.1 12 0))] [.int x146] τ143
          refine m_if_eq (tgt := 47) C dX6_next_31 (by decide) (fun c157 => ?_) (fun c157 => ?_)
          · exfalso
            have q : _ := c157
            simp only [ti_nle, ti_nlt, ti_le, ti_lt, ti_eq, ti_ne, Classical.not_not, kt_0] at q
            have q1 := b156; have q2 := kc_0; omega
          · have f159 : x146.toInt ≠ 0 := by
              have q : _ := c157
              simp only [ti_nle, ti_nlt, ti_le, ti_lt, ti_eq, ti_ne, Classical.not_not, kt_0] at q
              omega
            refine m_aload_n C dX6_next_34 rfl rfl ?_
            refine m_dup C dX6_next_35 rfl ?_
            refine g_12_4 C q1_44 dX6_next_36 ?_
            refine m_eqs (w := (gV τ 12 0 4)) (show gV τ143 12 0 4 = (gV τ 12 0 4) from (f145.1 12 0 (4) (by decide) (by decide)).trans rfl) ?_
            refine m_iconst (v := 1) C dX6_next_39 (by decide) ?_
            refine m_iadd C dX6_next_40 ?_
            refine m_topi (fun x160 ex160 => ?_)
            have tx160 : x160.toInt = (gV τ 12 0 4).toInt + 1 := by rw [ex160, ti_addv b139 kc_1 (by decide), kt_1]
            have b161 : IV x160 1 400 := by rw [ex160]; exact iv_add b139 kc_1 (by decide)
            refine p_12_4 C q1_44 dX6_next_41 ?_
            refine m_tops (fun τ162 eτ162 => ?_)
            have i163 : Inv τ162 := eτ162 ▸ Inv.put i144 (by decide) (iv_wk b161 (by decide))
            have f164 : Fr MS_X6_nextE AS_X6_nextE σ τ162 := eτ162 ▸ Fr.put (g148) (Or.inl (by decide))
            have v165 : TpC τ162 T N := v150.put eτ162 (Or.inr (by decide)) (by decide)
            refine m_goto (tgt := 8) C dX6_next_44 (by decide) ?_
            have q166 : (gV τ162 12 0 1).toInt = (gV τ 12 0 1).toInt := congrArg Int32.toInt (show (gV τ162 12 0 1) = (gV τ 12 0 1) from (show gV τ162 12 0 1 = (gV τ 12 0 1) from gV_put eτ162 (show gV τ143 12 0 1 = (gV τ 12 0 1) from (f145.1 12 0 (1) (by decide) (by decide)).trans rfl)))
            have q167 : (gV τ162 12 0 5).toInt = (gV τ 12 0 5).toInt := congrArg Int32.toInt (show (gV τ162 12 0 5) = (gV τ 12 0 5) from (show gV τ162 12 0 5 = (gV τ 12 0 5) from gV_put eτ162 (show gV τ143 12 0 5 = (gV τ 12 0 5) from (f145.1 12 0 (5) (by decide) (by decide)).trans rfl)))
            have q168 : (gV τ162 12 0 6).toInt = (gV τ 12 0 6).toInt := congrArg Int32.toInt (show (gV τ162 12 0 6) = (gV τ 12 0 6) from (show gV τ162 12 0 6 = (gV τ 12 0 6) from gV_put eτ162 (show gV τ143 12 0 6 = (gV τ 12 0 6) from (f145.1 12 0 (6) (by decide) (by decide)).trans rfl)))
            have q169 : (gV τ162 12 0 7).toInt = (gV τ 12 0 7).toInt := congrArg Int32.toInt (show (gV τ162 12 0 7) = (gV τ 12 0 7) from (show gV τ162 12 0 7 = (gV τ 12 0 7) from gV_put eτ162 (show gV τ143 12 0 7 = (gV τ 12 0 7) from (f145.1 12 0 (7) (by decide) (by decide)).trans rfl)))
            have q170 : (gV τ162 12 0 4).toInt = x160.toInt := congrArg Int32.toInt (show (gV τ162 12 0 4) = x160 from (show gV τ162 12 0 4 = x160 from gV_put eτ162 (gV_self _ _ _ _ _)))
            exact ih8 τ162 i163 f164 v165 (by first | (rw [show (gV τ162 12 0 4).toInt.toNat = i by omega]; rfl) | (rw [show (gV τ162 12 0 4).toInt.toNat = ((gV τ 12 0 4).toInt.toNat) + 1 by omega, sc_go (by omega) (isBl_t (by omega))]; exact nS)) (by have q := hm8; omega)
        · skip
          have b171 : IV x146 0 0 := ⟨by omega, by omega⟩
          show MW p l e _ s m args below meth c _ 1 G 0 0 31 [some (.ref (G.1 12 0))] [.int x146] τ143
          refine m_if_eq (tgt := 47) C dX6_next_31 (by decide) (fun c172 => ?_) (fun c172 => ?_)
          · have f173 : x146.toInt = 0 := by
              have q : _ := c172
              simp only [ti_nle, ti_nlt, ti_le, ti_lt, ti_eq, ti_ne, Classical.not_not, kt_0] at q
              omega
            exact J47 τ143 i144 g148 v150 (by have q0 := sc_no (P := isBl) (T := T) (i := ((gV τ 12 0 4).toInt.toNat)) (isBl_f (by first | omega | (have q2 := v150.2.2.2 ((gV τ 12 0 4).toInt.toNat) (by omega); omega))); have q3 := nS; omega)
          · exfalso
            have q : _ := c172
            simp only [ti_nle, ti_nlt, ti_le, ti_lt, ti_eq, ti_ne, Classical.not_not, kt_0] at q
            have q1 := b171; have q2 := kc_0; omega
  have u175 : IV (gV σ 12 0 1) 0 400 := hI.1 12 0 1
  have u176 : IV (gV σ 12 0 4) 0 400 := hI.1 12 0 4
  have u177 : IV (gV σ 12 0 5) 0 400 := hI.1 12 0 5
  have q178 : (gV σ 12 0 1).toInt = (N : Int) := hT.1
  have q179 := hT.2.1
  refine m_aload_n C dX6_next_0 rfl rfl ?_
  refine m_aload_n C dX6_next_1 rfl rfl ?_
  refine g_12_5 C q1_45 dX6_next_2 ?_
  refine m_eqs (w := (gV σ 12 0 5)) rfl ?_
  refine p_12_4 C q1_44 dX6_next_5 ?_
  refine m_tops (fun τ180 eτ180 => ?_)
  have i181 : Inv τ180 := eτ180 ▸ Inv.put hI (by decide) u177
  have f182 : Fr MS_X6_nextE AS_X6_nextE σ τ180 := eτ180 ▸ Fr.put (Fr.rf) (Or.inl (by decide))
  have v183 : TpC τ180 T N := hT.put eτ180 (Or.inr (by decide)) (by decide)
  have q184 : (gV τ180 12 0 1).toInt = (gV σ 12 0 1).toInt := congrArg Int32.toInt (show (gV τ180 12 0 1) = (gV σ 12 0 1) from (show gV τ180 12 0 1 = (gV σ 12 0 1) from gV_put eτ180 rfl))
  have q185 : (gV τ180 12 0 5).toInt = (gV σ 12 0 5).toInt := congrArg Int32.toInt (show (gV τ180 12 0 5) = (gV σ 12 0 5) from (show gV τ180 12 0 5 = (gV σ 12 0 5) from gV_put eτ180 rfl))
  have q186 : (gV τ180 12 0 6).toInt = (gV σ 12 0 6).toInt := congrArg Int32.toInt (show (gV τ180 12 0 6) = (gV σ 12 0 6) from (show gV τ180 12 0 6 = (gV σ 12 0 6) from gV_put eτ180 rfl))
  have q187 : (gV τ180 12 0 7).toInt = (gV σ 12 0 7).toInt := congrArg Int32.toInt (show (gV τ180 12 0 7) = (gV σ 12 0 7) from (show gV τ180 12 0 7 = (gV σ 12 0 7) from gV_put eτ180 rfl))
  have q188 : (gV τ180 12 0 4).toInt = (gV σ 12 0 5).toInt := congrArg Int32.toInt (show (gV τ180 12 0 4) = (gV σ 12 0 5) from (show gV τ180 12 0 4 = (gV σ 12 0 5) from gV_put eτ180 (gV_self _ _ _ _ _)))
  exact J8 ((400 - (gV τ180 12 0 4).toInt).toNat + 1) τ180 i181 f182 v183 (by first | (rw [show (gV τ180 12 0 4).toInt.toNat = i by omega]; rfl) | (rw [show (gV τ180 12 0 4).toInt.toNat = ((gV τ 12 0 4).toInt.toNat) + 1 by omega, sc_go (by omega) (isBl_t (by omega))]; exact nS)) (Nat.lt_succ_self _)

abbrev MS_J1_charAtE : List (Nat × Nat) := []
abbrev AS_J1_charAtE : List Nat := []
set_option maxHeartbeats 4000000 in
set_option maxRecDepth 100000 in
theorem c_J1_charAtE (l : Launch) (G : Gt) (σ : Sg) {w : Nat} (hw8 : w < 8) (a1 : Int32) (hI : Inv σ) (ha1 : IV a1 0 6) (hci : 0 ≤ a1.toInt ∧ a1.toInt < (tx_len.getD w 0 : Int)) : Mc l G yJ1_charAt_3b067 cJ1_charAt_3b067 2 (some .char) 2 43 0 0 [.ref (G.2.2.2.2.2 w), .int a1] σ (PI fun r τ => Inv τ ∧ Fr MS_J1_charAtE AS_J1_charAtE σ τ ∧ IV r (-2147483648) 2147483647 ∧ (narrow .char (.int r) = .int r ∧ r.toInt = ((tx_byt.getD w []).getD a1.toInt.toNat 0).toInt)) := by
  refine Mc.of (L0 := [some (.ref (G.2.2.2.2.2 w)), some (.int a1)]) (by decide) (Nat.le_of_ble_eq_true rfl) rfl ?_
  intro p e s m args below meth c C hr hlk
  have C : Cx p s m args c cJ1_charAt_3b067 2 "java/lang/StringLatin1" := C
  have k0 : (0 : Int32).toInt = 0 := by decide
  have k1 : (1 : Int32).toInt = 1 := by decide
  refine m_iload_n C dJ1_charAt_3b067_0 rfl rfl ?_
  refine m_aload_n C dJ1_charAt_3b067_1 rfl rfl ?_
  refine s_len C hw8 dJ1_charAt_3b067_2 (fun x1 tx1 => ?_)
  have b2 : IV x1 3 7 := by have q := tx_all _ hw8; exact ⟨by omega, by omega⟩
  refine m_callS (n := 2) (st := []) C (c_J0_checkIndex_df160 l G σ (a1) (x1) hI ha1 (by omega)) q2_113 q2_111 q2_112 q1_9 (by decide +kernel) rfl (by decide) (by decide) rfl (Nat.le_of_ble_eq_true rfl) dJ1_charAt_3b067_3 ?_
  rintro _ τ3 ⟨rfl, i4, f5⟩
  have g8 : Fr MS_J1_charAtE AS_J1_charAtE σ τ3 := Fr.call (Fr.rf) f5 (by decide)
  show MW p l e _ s m args below meth c _ 2 G 0 0 6 [some (.ref (G.2.2.2.2.2 w)), some (.int a1)] [] τ3
  refine m_aload_n C dJ1_charAt_3b067_6 rfl rfl ?_
  refine m_iload_n C dJ1_charAt_3b067_7 rfl rfl ?_
  refine s_at C hw8 ⟨by omega, by omega⟩ dJ1_charAt_3b067_8 ?_
  refine m_topi (fun x10 ex10 => ?_)
  refine m_sipush (v := 255) C dJ1_charAt_3b067_9 (by decide) ?_
  refine m_iand C dJ1_charAt_3b067_12 ?_
  refine m_topi (fun x11 ex11 => ?_)
  have b12 : IV x11 0 255 := by rw [ex11]; exact iv_and_r kc_255 (by decide)
  refine m_i2c C dJ1_charAt_3b067_13 ?_
  refine m_topi (fun x13 ex13 => ?_)
  exact m_zret C hr (by rw [ex13]; exact pk_nc _) hlk (by decide) (by decide) dJ1_charAt_3b067_14 ⟨_, rfl, i4, g8, (iv_any x13), ⟨by rw [ex13]; exact pk_nc _, by rw [ex13, ex11, ex10]; exact ch_b w hw8 _ (by omega)⟩⟩

abbrev MS_J0_charAtE : List (Nat × Nat) := []
abbrev AS_J0_charAtE : List Nat := []
set_option maxHeartbeats 4000000 in
set_option maxRecDepth 100000 in
theorem c_J0_charAtE (l : Launch) (G : Gt) (σ : Sg) {w : Nat} (hw8 : w < 8) (a1 : Int32) (hI : Inv σ) (ha1 : IV a1 0 6) (hci : 0 ≤ a1.toInt ∧ a1.toInt < (tx_len.getD w 0 : Int)) : Mc l G yJ0_charAt_5068e cJ0_charAt_5068e 2 (some .char) 3 64 0 0 [.ref (G.2.2.2.2.1 w), .int a1] σ (PI fun r τ => Inv τ ∧ Fr MS_J0_charAtE AS_J0_charAtE σ τ ∧ IV r (-2147483648) 2147483647 ∧ r.toInt = ((tx_byt.getD w []).getD a1.toInt.toNat 0).toInt) := by
  refine Mc.of (L0 := [some (.ref (G.2.2.2.2.1 w)), some (.int a1)]) (by decide) (Nat.le_of_ble_eq_true rfl) rfl ?_
  intro p e s m args below meth c C hr hlk
  have C : Cx p s m args c cJ0_charAt_5068e 2 "java/lang/String" := C
  have k0 : (0 : Int32).toInt = 0 := by decide
  have k1 : (1 : Int32).toInt = 1 := by decide
  refine m_aload_n C dJ0_charAt_5068e_0 rfl rfl ?_
  refine m_callK (n := 0) (w := w) (st := []) C (c_J0_isLatin1_aae02 l G σ (w := w) hw8  hI ) hw8 rfl q2_107 q2_104 q2_105 q2_106 q1_9 (by decide +kernel) rfl (by decide) (by decide) rfl (Nat.le_of_ble_eq_true rfl) dJ0_charAt_5068e_1 ?_
  rintro _ τ1 ⟨x4, rfl, i2, f3, b5⟩
  have g6 : Fr MS_J0_charAtE AS_J0_charAtE σ τ1 := Fr.call (Fr.rf) f3 (by decide)
  show MW p l e _ s m args below meth c _ 2 G 0 0 4 [some (.ref (G.2.2.2.2.1 w)), some (.int a1)] [.int x4] τ1
  refine m_if_eq (tgt := 16) C dJ0_charAt_5068e_4 (by decide) (fun c8 => ?_) (fun c8 => ?_)
  · exfalso
    have q : _ := c8
    simp only [ti_nle, ti_nlt, ti_le, ti_lt, ti_eq, ti_ne, Classical.not_not, kt_0] at q
    have q1 := b5; have q2 := kc_0; omega
  · have f10 : x4.toInt ≠ 0 := by
      have q : _ := c8
      simp only [ti_nle, ti_nlt, ti_le, ti_lt, ti_eq, ti_ne, Classical.not_not, kt_0] at q
      omega
    refine m_aload_n C dJ0_charAt_5068e_7 rfl rfl ?_
    refine s_value C hw8 q6_1 dJ0_charAt_5068e_8 ?_
    refine m_iload_n C dJ0_charAt_5068e_11 rfl rfl ?_
    refine m_callS (n := 2) (st := []) C (c_J1_charAtE l G τ1 (w := w) hw8 (a1) i2 ha1 (by omega)) q2_110 q2_108 q2_109 q1_10 (by decide +kernel) rfl (by decide) (by decide) rfl (Nat.le_of_ble_eq_true rfl) dJ0_charAt_5068e_12 ?_
    rintro _ τ11 ⟨x14, rfl, i12, f13, b15, h17⟩
    have g16 : Fr MS_J0_charAtE AS_J0_charAtE σ τ11 := Fr.call (g6) f13 (by decide)
    show MW p l e _ s m args below meth c _ 2 G 0 0 15 [some (.ref (G.2.2.2.2.1 w)), some (.int a1)] [.int x14] τ11
    exact m_zret C hr h17.1 hlk (by decide) (by decide) dJ0_charAt_5068e_15 ⟨_, rfl, i12, g16, b15, h17.2⟩

abbrev MS_X6_isWordE : List (Nat × Nat) := []
abbrev AS_X6_isWordE : List Nat := []
set_option maxHeartbeats 4000000 in
set_option maxRecDepth 100000 in
theorem c_X6_isWordE (l : Launch) (G : Gt) (σ : Sg) (T : Nat → Int) (N : Nat) (i : Nat) {w : Nat} (hw8 : w < 8) (hI : Inv σ) (hT : TpC σ T N) (hcur : ((gV σ 12 0 4).toInt = (tS T i : Int) ∧ (gV σ 12 0 5).toInt = (tE T N i : Int) ∧ (gV σ 12 0 6).toInt = tK T N i ∧ (tK T N i = 2 → (gV σ 12 0 7).toInt = tV T i))) : Mc l G yX6_isWord cX6_isWord 3 (some .boolean) 4 85 0 0 [.ref (G.1 12 0), .ref (G.2.2.2.2.1 w)] σ (PI fun r τ => Inv τ ∧ Fr MS_X6_isWordE AS_X6_isWordE σ τ ∧ IV r 0 1 ∧ ((r.toInt = 1 ∧ tK T N i = 1 ∧ tW T N i w = 1) ∨ (r.toInt = 0 ∧ ¬ (tK T N i = 1 ∧ tW T N i w = 1)))) := by
  refine Mc.of (L0 := [some (.ref (G.1 12 0)), some (.ref (G.2.2.2.2.1 w)), none]) (by decide) (Nat.le_of_ble_eq_true rfl) rfl ?_
  intro p e s m args below meth c C hr hlk
  have C : Cx p s m args c cX6_isWord 3 "LeanTower$Reader" := C
  have k0 : (0 : Int32).toInt = 0 := by decide
  have k1 : (1 : Int32).toInt = 1 := by decide
  have J28 : ∀ (n : Nat) (τ : Sg) (y2 : Int32), Inv τ → Fr MS_X6_isWordE AS_X6_isWordE σ τ → IV y2 0 7 → (TpC τ T N) → (((gV τ 12 0 5).toInt - (gV τ 12 0 4).toInt = (tx_len.getD w 0 : Int) ∧ (gV τ 12 0 4).toInt = (tS T i : Int) ∧ (gV τ 12 0 5).toInt = (tE T N i : Int) ∧ tK T N i = 1 ∧ (tE T N i : Int) ≤ N)) → (∀ k, k < y2.toInt.toNat → T (tS T i + k) = ((tx_byt.getD w []).getD k 0).toInt) → (7 - y2.toInt).toNat < n → MW p l e { frames := 4, cells := 0, slots := 0, locals := 85 } s m args below meth c (MQ below (QP G (PI fun r τ => Inv τ ∧ Fr MS_X6_isWordE AS_X6_isWordE σ τ ∧ IV r 0 1 ∧ ((r.toInt = 1 ∧ tK T N i = 1 ∧ tW T N i w = 1) ∨ (r.toInt = 0 ∧ ¬ (tK T N i = 1 ∧ tW T N i w = 1))))) args s 0 0 (aG G)) 3 G 0 0 28 [some (.ref (G.1 12 0)), some (.ref (G.2.2.2.2.1 w)), some (.int y2)] [] τ := by
    intro n
    induction n with
    | zero => intro τ y2 iτ fτ b_y2 v_T n1 nW hm; exact absurd hm (Nat.not_lt_zero _)
    | succ n ih28 =>
      intro τ y2 iτ fτ b_y2 v_T n1 nW hm28
      have u2 : IV (gV τ 12 0 1) 0 400 := iτ.1 12 0 1
      have u3 : IV (gV τ 12 0 4) 0 400 := iτ.1 12 0 4
      have u4 : IV (gV τ 12 0 5) 0 400 := iτ.1 12 0 5
      have q5 : (gV τ 12 0 1).toInt = (N : Int) := v_T.1
      have q6 := v_T.2.1
      refine m_iload_n C dX6_isWord_28 rfl rfl ?_
      refine m_aload_n C dX6_isWord_29 rfl rfl ?_
      refine m_callK (n := 0) (w := w) (st := [.int y2]) C (c_J0_length_8abf5 l G τ (w := w) hw8  iτ ) hw8 rfl q2_93 q2_90 q2_91 q2_92 q1_9 (by decide +kernel) rfl (by decide) (by decide) rfl (Nat.le_of_ble_eq_true rfl) dX6_isWord_30 ?_
      rintro _ τ7 ⟨x10, rfl, i8, f9, b11, h13⟩
      have g12 : Fr MS_X6_isWordE AS_X6_isWordE σ τ7 := Fr.call (fτ) f9 (by decide)
      have v14 : TpC τ7 T N := v_T.fr f9 (by decide) (by decide) (by simp) (by decide)
      have q15 : (gV τ7 12 0 1).toInt = (gV τ 12 0 1).toInt := congrArg Int32.toInt (show (gV τ7 12 0 1) = (gV τ 12 0 1) from (show gV τ7 12 0 1 = (gV τ 12 0 1) from (f9.1 12 0 (1) (by decide) (by decide)).trans rfl))
      have q16 : (gV τ7 12 0 4).toInt = (gV τ 12 0 4).toInt := congrArg Int32.toInt (show (gV τ7 12 0 4) = (gV τ 12 0 4) from (show gV τ7 12 0 4 = (gV τ 12 0 4) from (f9.1 12 0 (4) (by decide) (by decide)).trans rfl))
      have q17 : (gV τ7 12 0 5).toInt = (gV τ 12 0 5).toInt := congrArg Int32.toInt (show (gV τ7 12 0 5) = (gV τ 12 0 5) from (show gV τ7 12 0 5 = (gV τ 12 0 5) from (f9.1 12 0 (5) (by decide) (by decide)).trans rfl))
      have q18 : (gV τ7 12 0 6).toInt = (gV τ 12 0 6).toInt := congrArg Int32.toInt (show (gV τ7 12 0 6) = (gV τ 12 0 6) from (show gV τ7 12 0 6 = (gV τ 12 0 6) from (f9.1 12 0 (6) (by decide) (by decide)).trans rfl))
      show MW p l e _ s m args below meth c _ 3 G 0 0 33 [some (.ref (G.1 12 0)), some (.ref (G.2.2.2.2.1 w)), some (.int y2)] [.int x10, .int y2] τ7
      refine m_icmp_ge (tgt := 63) C dX6_isWord_33 (by decide) (fun c19 => ?_) (fun c19 => ?_)
      · have f20 : x10.toInt ≤ y2.toInt := by
          have q : _ := c19
          simp only [ti_nle, ti_nlt, ti_le, ti_lt, ti_eq, ti_ne, Classical.not_not] at q
          omega
        have b21 : IV y2 3 7 := ⟨by have q1 := b11; have q2 := b_y2; omega, by have q1 := b11; have q2 := b_y2; omega⟩
        refine m_iconst (v := 1) C dX6_isWord_63 (by decide) ?_
        exact m_zret C hr rfl hlk (by decide) (by decide) dX6_isWord_64 ⟨_, rfl, i8, g12, (iv_wk kc_1 (by decide)), (Or.inl ⟨by have q := kt_1; omega, by omega, tW_t (by omega) (fun k hk => nW k (by omega))⟩)⟩
      · have f22 : y2.toInt < x10.toInt := by
          have q : _ := c19
          simp only [ti_nle, ti_nlt, ti_le, ti_lt, ti_eq, ti_ne, Classical.not_not] at q
          omega
        have b23 : IV y2 0 6 := ⟨by have q1 := b_y2; have q2 := b11; omega, by have q1 := b_y2; have q2 := b11; omega⟩
        refine m_aload_n C dX6_isWord_36 rfl rfl ?_
        refine g_12_0 C q1_37 dX6_isWord_37 ?_
        refine m_aload_n C dX6_isWord_40 rfl rfl ?_
        refine g_12_4 C q1_44 dX6_isWord_41 ?_
        refine m_eqs (w := (gV τ 12 0 4)) (show gV τ7 12 0 4 = (gV τ 12 0 4) from (f9.1 12 0 (4) (by decide) (by decide)).trans rfl) ?_
        refine m_iload_n C dX6_isWord_44 rfl rfl ?_
        refine m_iadd C dX6_isWord_45 ?_
        refine m_topi (fun x24 ex24 => ?_)
        have tx24 : x24.toInt = (gV τ 12 0 4).toInt + y2.toInt := by rw [ex24, ti_addv u3 b23 (by decide)]
        have b25 : IV x24 0 406 := by rw [ex24]; exact iv_add u3 b23 (by decide)
        have b26 : IV x24 0 399 := ⟨by have q1 := b25; omega, by have q1 := b25; omega⟩
        refine al_13 C b26 (by decide) rfl dX6_isWord_46 ?_
        refine m_topi (fun x27 ex27 => ?_)
        have q28 := v14.2.2.1 (x24.toInt.toNat) (by omega)
        rw [show gV τ7 13 0 (x24.toInt.toNat) = x27 from ex27.symm] at q28
        refine m_aload_n C dX6_isWord_47 rfl rfl ?_
        refine m_iload_n C dX6_isWord_48 rfl rfl ?_
        refine m_callK (n := 1) (w := w) (st := [.int x27]) C (c_J0_charAtE l G τ7 (w := w) hw8 (y2) i8 b23 (by omega)) hw8 rfl q2_103 q2_100 q2_101 q2_102 q1_9 (by decide +kernel) rfl (by decide) (by decide) rfl (Nat.le_of_ble_eq_true rfl) dX6_isWord_49 ?_
        rintro _ τ29 ⟨x32, rfl, i30, f31, b33, h35⟩
        have g34 : Fr MS_X6_isWordE AS_X6_isWordE σ τ29 := Fr.call (g12) f31 (by decide)
        have v36 : TpC τ29 T N := v14.fr f31 (by decide) (by decide) (by simp) (by decide)
        have q37 : (gV τ29 12 0 1).toInt = (gV τ 12 0 1).toInt := congrArg Int32.toInt (show (gV τ29 12 0 1) = (gV τ 12 0 1) from (show gV τ29 12 0 1 = (gV τ 12 0 1) from (f31.1 12 0 (1) (by decide) (by decide)).trans (show gV τ7 12 0 1 = (gV τ 12 0 1) from (f9.1 12 0 (1) (by decide) (by decide)).trans rfl)))
        have q38 : (gV τ29 12 0 4).toInt = (gV τ 12 0 4).toInt := congrArg Int32.toInt (show (gV τ29 12 0 4) = (gV τ 12 0 4) from (show gV τ29 12 0 4 = (gV τ 12 0 4) from (f31.1 12 0 (4) (by decide) (by decide)).trans (show gV τ7 12 0 4 = (gV τ 12 0 4) from (f9.1 12 0 (4) (by decide) (by decide)).trans rfl)))
        have q39 : (gV τ29 12 0 5).toInt = (gV τ 12 0 5).toInt := congrArg Int32.toInt (show (gV τ29 12 0 5) = (gV τ 12 0 5) from (show gV τ29 12 0 5 = (gV τ 12 0 5) from (f31.1 12 0 (5) (by decide) (by decide)).trans (show gV τ7 12 0 5 = (gV τ 12 0 5) from (f9.1 12 0 (5) (by decide) (by decide)).trans rfl)))
        have q40 : (gV τ29 12 0 6).toInt = (gV τ 12 0 6).toInt := congrArg Int32.toInt (show (gV τ29 12 0 6) = (gV τ 12 0 6) from (show gV τ29 12 0 6 = (gV τ 12 0 6) from (f31.1 12 0 (6) (by decide) (by decide)).trans (show gV τ7 12 0 6 = (gV τ 12 0 6) from (f9.1 12 0 (6) (by decide) (by decide)).trans rfl)))
        show MW p l e _ s m args below meth c _ 3 G 0 0 52 [some (.ref (G.1 12 0)), some (.ref (G.2.2.2.2.1 w)), some (.int y2)] [.int x32, .int x27] τ29
        refine m_icmp_eq (tgt := 57) C dX6_isWord_52 (by decide) (fun c41 => ?_) (fun c41 => ?_)
        · have f42 : x27.toInt = x32.toInt := by
            have q : _ := c41
            simp only [ti_nle, ti_nlt, ti_le, ti_lt, ti_eq, ti_ne, Classical.not_not] at q
            omega
          obtain ⟨x43, ex43⟩ : ∃ y : Int32, y = y2 + 1 := ⟨_, rfl⟩
          have tx43 : x43.toInt = y2.toInt + 1 := by rw [ex43, ti_addv b23 kc_1 (by decide), kt_1]
          have b44 : IV x43 1 7 := by rw [ex43]; exact iv_add b23 kc_1 (by decide)
          refine m_iinc (v := x43) (L1 := [some (.ref (G.1 12 0)), some (.ref (G.2.2.2.2.1 w)), some (.int x43)]) C dX6_isWord_57 rfl (by rw [ex43]; rfl) (by decide) rfl rfl ?_
          refine m_goto (tgt := 28) C dX6_isWord_60 (by decide) ?_
          exact ih28 τ29 x43 i30 g34 (iv_wk b44 (by decide)) v36 (by omega) (fun k hk => by by_cases g : k < y2.toInt.toNat; exact nW k g; rw [show tS T i + k = (x24.toInt.toNat) by omega, show k = y2.toInt.toNat by omega]; have q8 := tx_pos w hw8 y2.toInt.toNat (by omega); omega) (by have q := hm28; omega)
        · have f45 : x27.toInt ≠ x32.toInt := by
            have q : _ := c41
            simp only [ti_nle, ti_nlt, ti_le, ti_lt, ti_eq, ti_ne, Classical.not_not] at q
            omega
          refine m_iconst (v := 0) C dX6_isWord_55 (by decide) ?_
          exact m_zret C hr rfl hlk (by decide) (by decide) dX6_isWord_56 ⟨_, rfl, i30, g34, (iv_wk kc_0 (by decide)), (Or.inr ⟨by have q := kt_0; omega, by have q9 := tW_f (T := T) (N := N) (i := i) (w := w) (fun h => by have q6 := h.2 y2.toInt.toNat (by omega); rw [show tS T i + y2.toInt.toNat = (x24.toInt.toNat) by omega] at q6; have q8 := tx_pos w hw8 y2.toInt.toNat (by omega); omega); omega⟩)⟩
  have u46 : IV (gV σ 12 0 1) 0 400 := hI.1 12 0 1
  have u47 : IV (gV σ 12 0 4) 0 400 := hI.1 12 0 4
  have u48 : IV (gV σ 12 0 5) 0 400 := hI.1 12 0 5
  have q49 : (gV σ 12 0 1).toInt = (N : Int) := hT.1
  have q50 := hT.2.1
  refine m_aload_n C dX6_isWord_0 rfl rfl ?_
  refine g_12_6 C q1_46 dX6_isWord_1 ?_
  refine m_eqs (w := (gV σ 12 0 6)) rfl ?_
  refine m_iconst (v := 1) C dX6_isWord_4 (by decide) ?_
  refine m_icmp_ne (tgt := 24) C dX6_isWord_5 (by decide) (fun c51 => ?_) (fun c51 => ?_)
  · have f52 : (gV σ 12 0 6).toInt ≠ 1 := by
      have q : _ := c51
      simp only [ti_nle, ti_nlt, ti_le, ti_lt, ti_eq, ti_ne, Classical.not_not, kt_1] at q
      omega
    refine m_iconst (v := 0) C dX6_isWord_24 (by decide) ?_
    exact m_zret C hr rfl hlk (by decide) (by decide) dX6_isWord_25 ⟨_, rfl, hI, Fr.rf, (iv_wk kc_0 (by decide)), (Or.inr ⟨by have q := kt_0; omega, by omega⟩)⟩
  · have f53 : (gV σ 12 0 6).toInt = 1 := by
      have q : _ := c51
      simp only [ti_nle, ti_nlt, ti_le, ti_lt, ti_eq, ti_ne, Classical.not_not, kt_1] at q
      omega
    have b54 : IV (gV σ 12 0 6) 1 1 := ⟨by have q1 := (iv_any (gV σ 12 0 6)); have q2 := kc_1; omega, by have q1 := (iv_any (gV σ 12 0 6)); have q2 := kc_1; omega⟩
    refine m_aload_n C dX6_isWord_8 rfl rfl ?_
    refine g_12_5 C q1_45 dX6_isWord_9 ?_
    refine m_eqs (w := (gV σ 12 0 5)) rfl ?_
    refine m_aload_n C dX6_isWord_12 rfl rfl ?_
    refine g_12_4 C q1_44 dX6_isWord_13 ?_
    refine m_eqs (w := (gV σ 12 0 4)) rfl ?_
    refine m_isub C dX6_isWord_16 ?_
    refine m_topi (fun x55 ex55 => ?_)
    have tx55 : x55.toInt = (gV σ 12 0 5).toInt - (gV σ 12 0 4).toInt := by rw [ex55, ti_subv u48 u47 (by decide)]
    have b56 : IV x55 (-400) 400 := by rw [ex55]; exact iv_sub u48 u47 (by decide)
    refine m_aload_n C dX6_isWord_17 rfl rfl ?_
    refine m_callK (n := 0) (w := w) (st := [.int x55]) C (c_J0_length_8abf5 l G σ (w := w) hw8  hI ) hw8 rfl q2_93 q2_90 q2_91 q2_92 q1_9 (by decide +kernel) rfl (by decide) (by decide) rfl (Nat.le_of_ble_eq_true rfl) dX6_isWord_18 ?_
    rintro _ τ57 ⟨x60, rfl, i58, f59, b61, h63⟩
    have g62 : Fr MS_X6_isWordE AS_X6_isWordE σ τ57 := Fr.call (Fr.rf) f59 (by decide)
    have v64 : TpC τ57 T N := hT.fr f59 (by decide) (by decide) (by simp) (by decide)
    have q65 : (gV τ57 12 0 1).toInt = (gV σ 12 0 1).toInt := congrArg Int32.toInt (show (gV τ57 12 0 1) = (gV σ 12 0 1) from (show gV τ57 12 0 1 = (gV σ 12 0 1) from (f59.1 12 0 (1) (by decide) (by decide)).trans rfl))
    have q66 : (gV τ57 12 0 4).toInt = (gV σ 12 0 4).toInt := congrArg Int32.toInt (show (gV τ57 12 0 4) = (gV σ 12 0 4) from (show gV τ57 12 0 4 = (gV σ 12 0 4) from (f59.1 12 0 (4) (by decide) (by decide)).trans rfl))
    have q67 : (gV τ57 12 0 5).toInt = (gV σ 12 0 5).toInt := congrArg Int32.toInt (show (gV τ57 12 0 5) = (gV σ 12 0 5) from (show gV τ57 12 0 5 = (gV σ 12 0 5) from (f59.1 12 0 (5) (by decide) (by decide)).trans rfl))
    have q68 : (gV τ57 12 0 6).toInt = (gV σ 12 0 6).toInt := congrArg Int32.toInt (show (gV τ57 12 0 6) = (gV σ 12 0 6) from (show gV τ57 12 0 6 = (gV σ 12 0 6) from (f59.1 12 0 (6) (by decide) (by decide)).trans rfl))
    show MW p l e _ s m args below meth c _ 3 G 0 0 21 [some (.ref (G.1 12 0)), some (.ref (G.2.2.2.2.1 w)), none] [.int x60, .int x55] τ57
    refine m_icmp_eq (tgt := 26) C dX6_isWord_21 (by decide) (fun c69 => ?_) (fun c69 => ?_)
    · have f70 : x55.toInt = x60.toInt := by
        have q : _ := c69
        simp only [ti_nle, ti_nlt, ti_le, ti_lt, ti_eq, ti_ne, Classical.not_not] at q
        omega
      have b71 : IV x55 3 7 := ⟨by have q1 := b56; have q2 := b61; omega, by have q1 := b56; have q2 := b61; omega⟩
      have q72 := tE_le (i := i) v64.2.2.2 (by omega)
      refine m_iconst (v := 0) C dX6_isWord_26 (by decide) ?_
      refine m_istore_n (L1 := [some (.ref (G.1 12 0)), some (.ref (G.2.2.2.2.1 w)), some (.int 0)]) C dX6_isWord_27 rfl (by decide) rfl rfl ?_
      exact J28 ((7 - (0 : Int32).toInt).toNat + 1) τ57 0 i58 g62 (iv_wk kc_0 (by decide)) v64 (by omega) (fun k hk => absurd hk (by have q := kt_0; omega)) (Nat.lt_succ_self _)
    · have f73 : x55.toInt ≠ x60.toInt := by
        have q : _ := c69
        simp only [ti_nle, ti_nlt, ti_le, ti_lt, ti_eq, ti_ne, Classical.not_not] at q
        omega
      refine m_iconst (v := 0) C dX6_isWord_24 (by decide) ?_
      exact m_zret C hr rfl hlk (by decide) (by decide) dX6_isWord_25 ⟨_, rfl, i58, g62, (iv_wk kc_0 (by decide)), (Or.inr ⟨by have q := kt_0; omega, by have q9 := tW_f (T := T) (N := N) (i := i) (w := w) (fun h => by have := h.1; omega); omega⟩)⟩
