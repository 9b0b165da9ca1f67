abbrev MS_X12_isSafeS : List (Nat × Nat) := []
abbrev AS_X12_isSafeS : List Nat := [23]
set_option maxHeartbeats 4000000 in
set_option maxRecDepth 100000 in
theorem c_X12_isSafeS (l : Launch) (G : Gt) (σ : Sg) (a1 : Int32) (hI : Inv σ) : Mc l G yX12_isSafe cX12_isSafe 3 (some .boolean) 3 67 0 0 [.ref (G.1 22 0), .int a1] σ (PI fun r τ => Inv τ ∧ Fr MS_X12_isSafeS AS_X12_isSafeS σ τ ∧ IV r 0 1 ∧ ((gV τ 23 0 2).toInt = (gV σ 23 0 2).toInt ∧ SFm σ τ)) := by
  refine Mc.of (L0 := [some (.ref (G.1 22 0)), some (.int a1), none]) (by decide) (Nat.le_of_ble_eq_true rfl) rfl ?_
  intro p e s m args below meth c C hr hlk
  have C : Cx p s m args c cX12_isSafe 3 "LeanTowerModel" := C
  have k0 : (0 : Int32).toInt = 0 := by decide
  have k1 : (1 : Int32).toInt = 1 := by decide
  have J2 : ∀ (n : Nat) (τ : Sg) (y2 : Int32), Inv τ → Fr MS_X12_isSafeS AS_X12_isSafeS σ τ → IV a1 (-2147483648) 2147483647 → IV y2 0 7 → (SFm σ τ) → ((gV τ 23 0 2).toInt = (gV σ 23 0 2).toInt) → (7 - y2.toInt).toNat < n → MW p l e { frames := 3, cells := 0, slots := 0, locals := 67 } s m args below meth c (MQ below (QP G (PI fun r τ => Inv τ ∧ Fr MS_X12_isSafeS AS_X12_isSafeS σ τ ∧ IV r 0 1 ∧ ((gV τ 23 0 2).toInt = (gV σ 23 0 2).toInt ∧ SFm σ τ))) args s 0 0 (aG G)) 3 G 0 0 2 [some (.ref (G.1 22 0)), some (.int a1), some (.int y2)] [] τ := by
    intro n
    induction n with
    | zero => intro τ y2 iτ fτ b_a1 b_y2 v_SM n1 hm; exact absurd hm (Nat.not_lt_zero _)
    | succ n ih2 =>
      intro τ y2 iτ fτ b_a1 b_y2 v_SM n1 hm2
      have u2 : IV (gV τ 23 0 2) 0 7 := iτ.1 23 0 2
      refine m_iload_n C dX12_isSafe_2 rfl rfl ?_
      refine m_aload_n C dX12_isSafe_3 rfl rfl ?_
      refine g_22_0 C q4_116 dX12_isSafe_4 ?_
      refine m_iconst (v := 2) C dX12_isSafe_7 (by decide) ?_
      refine al_23 C kc_2 (by decide) kn_2 dX12_isSafe_8 ?_
      refine m_eqs (w := (gV τ 23 0 2)) rfl ?_
      refine m_icmp_ge (tgt := 49) C dX12_isSafe_9 (by decide) (fun c3 => ?_) (fun c3 => ?_)
      · have f4 : (gV τ 23 0 2).toInt ≤ y2.toInt := by
          have q : _ := c3
          simp only [ti_nle, ti_nlt, ti_le, ti_lt, ti_eq, ti_ne, Classical.not_not] at q
          omega
        refine m_aload_n C dX12_isSafe_49 rfl rfl ?_
        refine m_sipush (v := 200) C dX12_isSafe_50 (by decide) ?_
        have q5 := kt_200
        refine m_callV (n := 1) (ci := 11) (st := []) C (c_X12_worstOf l G τ (200) iτ (iv_wk kc_200 (by decide)) (by omega)) (by decide) (by decide) rfl rfl rfl q5_78 q5_75 q5_77 q0_40 q1_7 (by decide +kernel) rfl (by decide) (by decide) rfl (Nat.le_of_ble_eq_true rfl) dX12_isSafe_53 ?_
        rintro _ τ6 ⟨x9, rfl, i7, f8, b10⟩
        have g11 : Fr MS_X12_isSafeS AS_X12_isSafeS σ τ6 := Fr.call (fτ) f8 (by decide)
        have v13 : SFm σ τ6 := v_SM.fr f8 (by simp) (by decide)
        show MW p l e _ s m args below meth c _ 3 G 0 0 56 [some (.ref (G.1 22 0)), some (.int a1), some (.int y2)] [.int x9] τ6
        refine m_aload_n C dX12_isSafe_56 rfl rfl ?_
        refine g_22_0 C q4_116 dX12_isSafe_57 ?_
        refine m_iconst (v := 1) C dX12_isSafe_60 (by decide) ?_
        refine al_23 C kc_1 (by decide) kn_1 dX12_isSafe_61 ?_
        refine m_topi (fun x14 ex14 => ?_)
        refine m_icmp_gt (tgt := 69) C dX12_isSafe_62 (by decide) (fun c15 => ?_) (fun c15 => ?_)
        · have f16 : x14.toInt < x9.toInt := by
            have q : _ := c15
            simp only [ti_nle, ti_nlt, ti_le, ti_lt, ti_eq, ti_ne, Classical.not_not] at q
            omega
          have b17 : IV x14 (-2147483648) 2147483646 := ⟨by have q1 := (iv_any x14); have q2 := b10; omega, by have q1 := (iv_any x14); have q2 := b10; omega⟩
          have b18 : IV x9 (-2147483647) 2147483647 := ⟨by have q1 := (iv_any x14); have q2 := b10; omega, by have q1 := (iv_any x14); have q2 := b10; omega⟩
          refine m_iconst (v := 0) C dX12_isSafe_69 (by decide) ?_
          have q19 : (gV τ6 23 0 2).toInt = (gV τ 23 0 2).toInt := congrArg Int32.toInt (show (gV τ6 23 0 2) = (gV τ 23 0 2) from (show gV τ6 23 0 2 = (gV τ 23 0 2) from (f8.1 23 0 (2) (by decide) (by decide)).trans rfl))
          exact m_zret C hr rfl hlk (by decide) (by decide) dX12_isSafe_70 ⟨_, rfl, i7, g11, (iv_wk kc_0 (by decide)), ⟨by omega, v13⟩⟩
        · have f20 : x9.toInt ≤ x14.toInt := by
            have q : _ := c15
            simp only [ti_nle, ti_nlt, ti_le, ti_lt, ti_eq, ti_ne, Classical.not_not] at q
            omega
          refine m_iconst (v := 1) C dX12_isSafe_65 (by decide) ?_
          refine m_goto (tgt := 70) C dX12_isSafe_66 (by decide) ?_
          have q21 : (gV τ6 23 0 2).toInt = (gV τ 23 0 2).toInt := congrArg Int32.toInt (show (gV τ6 23 0 2) = (gV τ 23 0 2) from (show gV τ6 23 0 2 = (gV τ 23 0 2) from (f8.1 23 0 (2) (by decide) (by decide)).trans rfl))
          exact m_zret C hr rfl hlk (by decide) (by decide) dX12_isSafe_70 ⟨_, rfl, i7, g11, (iv_wk kc_1 (by decide)), ⟨by omega, v13⟩⟩
      · have f22 : y2.toInt < (gV τ 23 0 2).toInt := by
          have q : _ := c3
          simp only [ti_nle, ti_nlt, ti_le, ti_lt, ti_eq, ti_ne, Classical.not_not] at q
          omega
        have b23 : IV y2 0 6 := ⟨by have q1 := b_y2; have q2 := u2; omega, by have q1 := b_y2; have q2 := u2; omega⟩
        have b24 : IV (gV τ 23 0 2) 1 7 := ⟨by have q1 := b_y2; have q2 := u2; omega, by have q1 := b_y2; have q2 := u2; omega⟩
        refine m_aload_n C dX12_isSafe_12 rfl rfl ?_
        refine g_22_0 C q4_116 dX12_isSafe_13 ?_
        refine m_sipush (v := 224) C dX12_isSafe_16 (by decide) ?_
        refine m_iload_n C dX12_isSafe_19 rfl rfl ?_
        refine m_iadd C dX12_isSafe_20 ?_
        refine m_topi (fun x25 ex25 => ?_)
        have tx25 : x25.toInt = 224 + y2.toInt := by rw [ex25, ti_addv kc_224 b23 (by decide), kt_224]
        have b26 : IV x25 224 230 := by rw [ex25]; exact iv_add kc_224 b23 (by decide)
        refine m_iload_n C dX12_isSafe_21 rfl rfl ?_
        refine m_iload_n C dX12_isSafe_22 rfl rfl ?_
        refine m_callS (n := 2) (st := [.int x25, .ref (G.1 23 0)]) C (c_X12_has l G τ (a1) (y2) iτ ) q5_142 q5_140 q5_141 q1_7 (by decide +kernel) rfl (by decide) (by decide) rfl (Nat.le_of_ble_eq_true rfl) dX12_isSafe_23 ?_
        rintro _ τ27 ⟨x30, rfl, i28, f29, b31⟩
        have g32 : Fr MS_X12_isSafeS AS_X12_isSafeS σ τ27 := Fr.call (fτ) f29 (by decide)
        have v34 : SFm σ τ27 := v_SM.fr f29 (by simp) (by decide)
        show MW p l e _ s m args below meth c _ 3 G 0 0 26 [some (.ref (G.1 22 0)), some (.int a1), some (.int y2)] [.int x30, .int x25, .ref (G.1 23 0)] τ27
        refine m_if_eq (tgt := 33) C dX12_isSafe_26 (by decide) (fun c35 => ?_) (fun c35 => ?_)
        · have f36 : x30.toInt = 0 := by
            have q : _ := c35
            simp only [ti_nle, ti_nlt, ti_le, ti_lt, ti_eq, ti_ne, Classical.not_not, kt_0] at q
            omega
          have b37 : IV x30 0 0 := ⟨by have q1 := b31; have q2 := kc_0; omega, by have q1 := b31; have q2 := kc_0; omega⟩
          refine m_aload_n C dX12_isSafe_33 rfl rfl ?_
          refine g_22_0 C q4_116 dX12_isSafe_34 ?_
          refine m_bipush (v := 24) C dX12_isSafe_37 (by decide) ?_
          refine m_iload_n C dX12_isSafe_39 rfl rfl ?_
          refine m_iadd C dX12_isSafe_40 ?_
          refine m_topi (fun x38 ex38 => ?_)
          have tx38 : x38.toInt = 24 + y2.toInt := by rw [ex38, ti_addv kc_24 b23 (by decide), kt_24]
          have b39 : IV x38 24 30 := by rw [ex38]; exact iv_add kc_24 b23 (by decide)
          refine al_23 C b39 (by decide) rfl dX12_isSafe_41 ?_
          refine m_topi (fun x40 ex40 => ?_)
          refine as_23 C b26 (by decide) rfl dX12_isSafe_42 ?_
          refine m_tops (fun τ41 eτ41 => ?_)
          have i42 : Inv τ41 := eτ41 ▸ Inv.putW i28 (by omega)
          have f43 : Fr MS_X12_isSafeS AS_X12_isSafeS σ τ41 := eτ41 ▸ Fr.put (g32) (Or.inr (by decide))
          have v44 : SFm σ τ41 := v34.put eτ41 (by omega)
          obtain ⟨x45, ex45⟩ : ∃ y : Int32, y = y2 + 1 := ⟨_, rfl⟩
          have tx45 : x45.toInt = y2.toInt + 1 := by rw [ex45, ti_addv b23 kc_1 (by decide), kt_1]
          have b46 : IV x45 1 7 := by rw [ex45]; exact iv_add b23 kc_1 (by decide)
          refine m_iinc (v := x45) (L1 := [some (.ref (G.1 22 0)), some (.int a1), some (.int x45)]) C dX12_isSafe_43 rfl (by rw [ex45]; rfl) (by decide) rfl rfl ?_
          refine m_goto (tgt := 2) C dX12_isSafe_46 (by decide) ?_
          have q47 : (gV τ41 23 0 2).toInt = (gV τ 23 0 2).toInt := congrArg Int32.toInt (show (gV τ41 23 0 2) = (gV τ 23 0 2) from (show gV τ41 23 0 2 = (gV τ 23 0 2) from (gV_putn eτ41 (Or.inr (Or.inr (by omega)))).trans (show gV τ27 23 0 2 = (gV τ 23 0 2) from (f29.1 23 0 (2) (by decide) (by decide)).trans rfl)))
          exact ih2 τ41 x45 i42 f43 b_a1 (iv_wk b46 (by decide)) v44 (by omega) (by have q := hm2; omega)
        · have f48 : x30.toInt ≠ 0 := by
            have q : _ := c35
            simp only [ti_nle, ti_nlt, ti_le, ti_lt, ti_eq, ti_ne, Classical.not_not, kt_0] at q
            omega
          have b49 : IV x30 1 1 := ⟨by have q1 := b31; have q2 := kc_0; omega, by have q1 := b31; have q2 := kc_0; omega⟩
          refine m_iconst (v := (-1)) C dX12_isSafe_29 (by decide) ?_
          refine m_goto (tgt := 42) C dX12_isSafe_30 (by decide) ?_
          refine as_23 C b26 (by decide) rfl dX12_isSafe_42 ?_
          refine m_tops (fun τ50 eτ50 => ?_)
          have i51 : Inv τ50 := eτ50 ▸ Inv.putW i28 (by omega)
          have f52 : Fr MS_X12_isSafeS AS_X12_isSafeS σ τ50 := eτ50 ▸ Fr.put (g32) (Or.inr (by decide))
          have v53 : SFm σ τ50 := v34.put eτ50 (by omega)
          obtain ⟨x54, ex54⟩ : ∃ y : Int32, y = y2 + 1 := ⟨_, rfl⟩
          have tx54 : x54.toInt = y2.toInt + 1 := by rw [ex54, ti_addv b23 kc_1 (by decide), kt_1]
          have b55 : IV x54 1 7 := by rw [ex54]; exact iv_add b23 kc_1 (by decide)
          refine m_iinc (v := x54) (L1 := [some (.ref (G.1 22 0)), some (.int a1), some (.int x54)]) C dX12_isSafe_43 rfl (by rw [ex54]; rfl) (by decide) rfl rfl ?_
          refine m_goto (tgt := 2) C dX12_isSafe_46 (by decide) ?_
          have q56 : (gV τ50 23 0 2).toInt = (gV τ 23 0 2).toInt := congrArg Int32.toInt (show (gV τ50 23 0 2) = (gV τ 23 0 2) from (show gV τ50 23 0 2 = (gV τ 23 0 2) from (gV_putn eτ50 (Or.inr (Or.inr (by omega)))).trans (show gV τ27 23 0 2 = (gV τ 23 0 2) from (f29.1 23 0 (2) (by decide) (by decide)).trans rfl)))
          exact ih2 τ50 x54 i51 f52 b_a1 (iv_wk b55 (by decide)) v53 (by omega) (by have q := hm2; omega)
  have u57 : IV (gV σ 23 0 2) 0 7 := hI.1 23 0 2
  refine m_iconst (v := 0) C dX12_isSafe_0 (by decide) ?_
  refine m_istore_n (L1 := [some (.ref (G.1 22 0)), some (.int a1), some (.int 0)]) C dX12_isSafe_1 rfl (by decide) rfl rfl ?_
  exact J2 ((7 - (0 : Int32).toInt).toNat + 1) σ 0 hI Fr.rf (iv_any a1) (iv_wk kc_0 (by decide)) SFm.rf (by omega) (Nat.lt_succ_self _)

abbrev MS_X12_rescueS : List (Nat × Nat) := []
abbrev AS_X12_rescueS : List Nat := [23, 30]
set_option maxHeartbeats 4000000 in
set_option maxRecDepth 100000 in
theorem c_X12_rescueS (l : Launch) (G : Gt) (σ : Sg) (a1 : Int32) (hI : Inv σ) : Mc l G yX12_rescue cX12_rescue 7 (some .int) 5 140 0 0 [.ref (G.1 22 0), .int a1] σ (PI fun r τ => Inv τ ∧ Fr MS_X12_rescueS AS_X12_rescueS σ τ ∧ IV r (-2147483648) 2147483647 ∧ SFm σ τ) := by
  refine Mc.of (L0 := [some (.ref (G.1 22 0)), some (.int a1), none, none, none, none, none]) (by decide) (Nat.le_of_ble_eq_true rfl) rfl ?_
  intro p e s m args below meth c C hr hlk
  have C : Cx p s m args c cX12_rescue 7 "LeanTowerModel" := C
  have k0 : (0 : Int32).toInt = 0 := by decide
  have k1 : (1 : Int32).toInt = 1 := by decide
  have hN : IV (gV σ 23 0 2) 0 7 := hI.1 23 0 2
  have hN8 : (gV σ 23 0 2).toInt.toNat < 8 := by have := hN.1; have := hN.2; omega
  have hpw := pw_le _ hN8
  have J224 : ∀ (n : Nat) (τ : Sg) (y4 : Int32) (y5 : Int32) (y6 : Int32), Inv τ → Fr MS_X12_rescueS AS_X12_rescueS σ τ → IV a1 0 6 → IV y4 0 127 → IV y5 0 6 → IV y6 0 7 → (SFm σ τ) → (TT τ (-1) (gV σ 23 0 2).toInt.toNat) → ((gV τ 30 0 y4.toInt.toNat).toInt ≠ 0) → (y4.toInt.toNat < pw (gV σ 23 0 2).toInt.toNat) → ((pcn y4.toInt.toNat : Int) + a1.toInt + 1 ≤ ((gV σ 23 0 2).toInt.toNat : Int) + y6.toInt) → (7 - y6.toInt).toNat < n → MW p l e { frames := 5, cells := 0, slots := 0, locals := 140 } s m args below meth c (MQ below (QP G (PI fun r τ => Inv τ ∧ Fr MS_X12_rescueS AS_X12_rescueS σ τ ∧ IV r (-2147483648) 2147483647 ∧ SFm σ τ)) args s 0 0 (aG G)) 7 G 0 0 224 [some (.ref (G.1 22 0)), some (.int a1), none, none, some (.int y4), some (.int y5), some (.int y6)] [] τ := by
    intro n
    induction n with
    | zero => intro τ y4 y5 y6 iτ fτ b_a1 b_y4 b_y5 b_y6 v_SM nT3 nC n1 n2 hm; exact absurd hm (Nat.not_lt_zero _)
    | succ n ih224 =>
      intro τ y4 y5 y6 iτ fτ b_a1 b_y4 b_y5 b_y6 v_SM nT3 nC n1 n2 hm224
      have J233 : ∀ (n : Nat) (τ : Sg) (y5 : Int32), Inv τ → Fr MS_X12_rescueS AS_X12_rescueS σ τ → IV a1 0 6 → IV y4 0 127 → IV y5 0 7 → IV y6 0 6 → (SFm σ τ) → (TT τ (-1) (gV σ 23 0 2).toInt.toNat) → (Wl τ y4.toInt.toNat y5.toInt.toNat (gV σ 23 0 2).toInt.toNat) → (7 - y5.toInt).toNat < n → MW p l e { frames := 5, cells := 0, slots := 0, locals := 140 } s m args below meth c (MQ below (QP G (PI fun r τ => Inv τ ∧ Fr MS_X12_rescueS AS_X12_rescueS σ τ ∧ IV r (-2147483648) 2147483647 ∧ SFm σ τ)) args s 0 0 (aG G)) 7 G 0 0 233 [some (.ref (G.1 22 0)), some (.int a1), none, none, some (.int y4), some (.int y5), some (.int y6)] [] τ := by
        intro n
        induction n with
        | zero => intro τ y5 iτ fτ b_a1 b_y4 b_y5 b_y6 v_SM nT4 nL hm; exact absurd hm (Nat.not_lt_zero _)
        | succ n ih233 =>
          intro τ y5 iτ fτ b_a1 b_y4 b_y5 b_y6 v_SM nT4 nL hm233
          have u3 : IV (gV τ 23 0 2) 0 7 := iτ.1 23 0 2
          have q4 := nL.lt
          have b5 : IV y5 0 6 := ⟨by omega, by omega⟩
          refine m_iload C dX12_rescue_233 rfl ?_
          refine m_iload C dX12_rescue_235 rfl ?_
          refine m_callS (n := 2) (st := []) C (c_X12_hasE l G τ (y4) (y5) iτ b_y4 b5) q5_142 q5_140 q5_141 q1_7 (by decide +kernel) rfl (by decide) (by decide) rfl (Nat.le_of_ble_eq_true rfl) dX12_rescue_237 ?_
          rintro _ τ6 ⟨x9, rfl, i7, f8, b10, h12⟩
          have g11 : Fr MS_X12_rescueS AS_X12_rescueS σ τ6 := Fr.call (fτ) f8 (by decide)
          have v13 : SFm σ τ6 := v_SM.fr f8 (by simp) (by decide)
          have q14 : (gV τ6 23 0 2).toInt = (gV τ 23 0 2).toInt := congrArg Int32.toInt (show (gV τ6 23 0 2) = (gV τ 23 0 2) from (show gV τ6 23 0 2 = (gV τ 23 0 2) from (f8.1 23 0 (2) (by decide) (by decide)).trans rfl))
          show MW p l e _ s m args below meth c _ 7 G 0 0 240 [some (.ref (G.1 22 0)), some (.int a1), none, none, some (.int y4), some (.int y5), some (.int y6)] [.int x9] τ6
          refine m_if_ne (tgt := 258) C dX12_rescue_240 (by decide) (fun c15 => ?_) (fun c15 => ?_)
          · have f16 : x9.toInt ≠ 0 := by
              have q : _ := c15
              simp only [ti_nle, ti_nlt, ti_le, ti_lt, ti_eq, ti_ne, Classical.not_not, kt_0] at q
              omega
            have b17 : IV x9 1 1 := ⟨by have q1 := b10; have q2 := kc_0; omega, by have q1 := b10; have q2 := kc_0; omega⟩
            obtain ⟨x18, ex18⟩ : ∃ y : Int32, y = y5 + 1 := ⟨_, rfl⟩
            have tx18 : x18.toInt = y5.toInt + 1 := by rw [ex18, ti_addv b5 kc_1 (by decide), kt_1]
            have b19 : IV x18 1 7 := by rw [ex18]; exact iv_add b5 kc_1 (by decide)
            refine m_iinc (v := x18) (L1 := [some (.ref (G.1 22 0)), some (.int a1), none, none, some (.int y4), some (.int x18), some (.int y6)]) C dX12_rescue_258 rfl (by rw [ex18]; rfl) (by decide) rfl rfl ?_
            refine m_goto (tgt := 233) C dX12_rescue_261 (by decide) ?_
            exact ih233 τ6 x18 i7 g11 b_a1 b_y4 (iv_wk b19 (by decide)) b_y6 v13 (nT4.eq (fun k => (f8.1 30 0 k (by simp) (by decide)).trans ((fun _ => rfl) k))) ((nL.eq (fun k => (f8.1 30 0 k (by simp) (by decide)).trans ((fun _ => rfl) k))).next (by omega) (by omega)) (by have q := hm233; omega)
          · have f20 : x9.toInt = 0 := by
              have q : _ := c15
              simp only [ti_nle, ti_nlt, ti_le, ti_lt, ti_eq, ti_ne, Classical.not_not, kt_0] at q
              omega
            have b21 : IV x9 0 0 := ⟨by have q1 := b10; have q2 := kc_0; omega, by have q1 := b10; have q2 := kc_0; omega⟩
            refine m_aload_n C dX12_rescue_243 rfl rfl ?_
            refine g_22_18 C q4_134 dX12_rescue_244 ?_
            refine m_iload C dX12_rescue_247 rfl ?_
            refine m_iconst (v := 1) C dX12_rescue_249 (by decide) ?_
            refine m_iload C dX12_rescue_250 rfl ?_
            refine m_ishl C dX12_rescue_252 ?_
            refine m_topi (fun x22 ex22 => ?_)
            have b23 : IV x22 1 64 := by rw [ex22]; exact iv_shl1 b5 (by decide)
            refine m_ior C dX12_rescue_253 ?_
            refine m_topi (fun x24 ex24 => ?_)
            have b25 : IV x24 0 127 := by rw [ex24]; exact iv_or 7 b_y4 b23 (by decide)
            have q26 : x24.toInt.toNat = ob y4.toInt.toNat y5.toInt.toNat := or_i ex24 ex22 b_y4 b5
            refine al_30 C b25 (by decide) rfl dX12_rescue_254 ?_
            refine m_topi (fun x27 ex27 => ?_)
            have q28 : (gV τ6 30 0 (ob y4.toInt.toNat y5.toInt.toNat)).toInt = x27.toInt := by rw [← q26, ← ex27]
            refine m_if_ne (tgt := 264) C dX12_rescue_255 (by decide) (fun c29 => ?_) (fun c29 => ?_)
            · have f30 : x27.toInt ≠ 0 := by
                have q : _ := c29
                simp only [ti_nle, ti_nlt, ti_le, ti_lt, ti_eq, ti_ne, Classical.not_not, kt_0] at q
                omega
              refine m_iload C dX12_rescue_264 rfl ?_
              refine m_iconst (v := 1) C dX12_rescue_266 (by decide) ?_
              refine m_iload C dX12_rescue_267 rfl ?_
              refine m_ishl C dX12_rescue_269 ?_
              refine m_topi (fun x31 ex31 => ?_)
              have b32 : IV x31 1 64 := by rw [ex31]; exact iv_shl1 b5 (by decide)
              refine m_ior C dX12_rescue_270 ?_
              refine m_topi (fun x33 ex33 => ?_)
              have b34 : IV x33 0 127 := by rw [ex33]; exact iv_or 7 b_y4 b32 (by decide)
              have q35 : x33.toInt.toNat = ob y4.toInt.toNat y5.toInt.toNat := or_i ex33 ex31 b_y4 b5
              have q36 : x33.toInt.toNat < pw (gV σ 23 0 2).toInt.toNat := by rw [q35]; exact ob_lt (by omega) (by omega)
              have q37 : pcn x33.toInt.toNat = pcn y4.toInt.toNat + 1 := by rw [q35]; exact pcn_ob _ (by omega) _ (by omega) (by omega)
              refine m_istore (L1 := [some (.ref (G.1 22 0)), some (.int a1), none, none, some (.int x33), some (.int y5), some (.int y6)]) C dX12_rescue_271 (by decide) rfl rfl ?_
              obtain ⟨x38, ex38⟩ : ∃ y : Int32, y = y6 + 1 := ⟨_, rfl⟩
              have tx38 : x38.toInt = y6.toInt + 1 := by rw [ex38, ti_addv b_y6 kc_1 (by decide), kt_1]
              have b39 : IV x38 1 7 := by rw [ex38]; exact iv_add b_y6 kc_1 (by decide)
              refine m_iinc (v := x38) (L1 := [some (.ref (G.1 22 0)), some (.int a1), none, none, some (.int x33), some (.int y5), some (.int x38)]) C dX12_rescue_273 rfl (by rw [ex38]; rfl) (by decide) rfl rfl ?_
              refine m_goto (tgt := 224) C dX12_rescue_276 (by decide) ?_
              exact ih224 τ6 x33 y5 x38 i7 g11 b_a1 b34 b5 (iv_wk b39 (by decide)) v13 (nT4.eq (fun k => (f8.1 30 0 k (by simp) (by decide)).trans ((fun _ => rfl) k))) (by rw [q35]; omega) (by omega) (by omega) (by have q := hm224; omega)
            · have f40 : x27.toInt = 0 := by
                have q : _ := c29
                simp only [ti_nle, ti_nlt, ti_le, ti_lt, ti_eq, ti_ne, Classical.not_not, kt_0] at q
                omega
              have b41 : IV x27 0 0 := ⟨by have q1 := (iv_any x27); have q2 := kc_0; omega, by have q1 := (iv_any x27); have q2 := kc_0; omega⟩
              obtain ⟨x42, ex42⟩ : ∃ y : Int32, y = y5 + 1 := ⟨_, rfl⟩
              have tx42 : x42.toInt = y5.toInt + 1 := by rw [ex42, ti_addv b5 kc_1 (by decide), kt_1]
              have b43 : IV x42 1 7 := by rw [ex42]; exact iv_add b5 kc_1 (by decide)
              refine m_iinc (v := x42) (L1 := [some (.ref (G.1 22 0)), some (.int a1), none, none, some (.int y4), some (.int x42), some (.int y6)]) C dX12_rescue_258 rfl (by rw [ex42]; rfl) (by decide) rfl rfl ?_
              refine m_goto (tgt := 233) C dX12_rescue_261 (by decide) ?_
              exact ih233 τ6 x42 i7 g11 b_a1 b_y4 (iv_wk b43 (by decide)) b_y6 v13 (nT4.eq (fun k => (f8.1 30 0 k (by simp) (by decide)).trans ((fun _ => rfl) k))) ((nL.eq (fun k => (f8.1 30 0 k (by simp) (by decide)).trans ((fun _ => rfl) k))).next (by omega) (by omega)) (by have q := hm233; omega)
      have u44 : IV (gV τ 23 0 2) 0 7 := iτ.1 23 0 2
      refine m_iload C dX12_rescue_224 rfl ?_
      refine m_iload_n C dX12_rescue_226 rfl rfl ?_
      refine m_icmp_gt (tgt := 279) C dX12_rescue_227 (by decide) (fun c45 => ?_) (fun c45 => ?_)
      · have f46 : a1.toInt < y6.toInt := by
          have q : _ := c45
          simp only [ti_nle, ti_nlt, ti_le, ti_lt, ti_eq, ti_ne, Classical.not_not] at q
          omega
        have b47 : IV y6 1 7 := ⟨by have q1 := b_a1; have q2 := b_y6; omega, by have q1 := b_a1; have q2 := b_y6; omega⟩
        refine m_iload C dX12_rescue_279 rfl ?_
        exact m_iret C hr hlk (by decide) (by decide) dX12_rescue_281 ⟨_, rfl, iτ, fτ, (iv_wk b_y5 (by decide)), v_SM⟩
      · have f48 : y6.toInt ≤ a1.toInt := by
          have q : _ := c45
          simp only [ti_nle, ti_nlt, ti_le, ti_lt, ti_eq, ti_ne, Classical.not_not] at q
          omega
        have b49 : IV y6 0 6 := ⟨by have q1 := b_y6; have q2 := b_a1; omega, by have q1 := b_y6; have q2 := b_a1; omega⟩
        refine m_iconst (v := 0) C dX12_rescue_230 (by decide) ?_
        refine m_istore (L1 := [some (.ref (G.1 22 0)), some (.int a1), none, none, some (.int y4), some (.int 0), some (.int y6)]) C dX12_rescue_231 (by decide) rfl rfl ?_
        exact J233 ((7 - (0 : Int32).toInt).toNat + 1) τ 0 iτ fτ b_a1 b_y4 (iv_wk kc_0 (by decide)) b49 v_SM (nT3.eq (fun _ => rfl)) (nT3.wit nC (by omega) (by omega) (by omega) kn_0) (Nat.lt_succ_self _)
  have J81 : ∀ (n : Nat) (τ : Sg) (y2 : Int32) (y3 : Int32) (y4 : Int32), Inv τ → Fr MS_X12_rescueS AS_X12_rescueS σ τ → IV a1 0 2147483647 → IV y2 0 127 → IV y3 0 127 → IV y4 (-1) 127 → (SFm σ τ) → ((gV τ 23 0 2).toInt = (gV σ 23 0 2).toInt) → (y2.toInt.toNat < pw (gV σ 23 0 2).toInt.toNat) → (y3.toInt + 1 = (pw (gV σ 23 0 2).toInt.toNat : Int)) → (y4.toInt ≤ y3.toInt) → (TT τ y4.toInt (gV σ 23 0 2).toInt.toNat) → (y4.toInt - (-1)).toNat < n → MW p l e { frames := 5, cells := 0, slots := 0, locals := 140 } s m args below meth c (MQ below (QP G (PI fun r τ => Inv τ ∧ Fr MS_X12_rescueS AS_X12_rescueS σ τ ∧ IV r (-2147483648) 2147483647 ∧ SFm σ τ)) args s 0 0 (aG G)) 7 G 0 0 81 [some (.ref (G.1 22 0)), some (.int a1), some (.int y2), some (.int y3), some (.int y4), none, none] [] τ := by
    intro n
    induction n with
    | zero => intro τ y2 y3 y4 iτ fτ b_a1 b_y2 b_y3 b_y4 v_SM n50 n51 n52 n53 nT hm; exact absurd hm (Nat.not_lt_zero _)
    | succ n ih81 =>
      intro τ y2 y3 y4 iτ fτ b_a1 b_y2 b_y3 b_y4 v_SM n50 n51 n52 n53 nT hm81
      have J102 : ∀ (n : Nat) (τ : Sg) (y5 : Int32) (y6 : Int32), Inv τ → Fr MS_X12_rescueS AS_X12_rescueS σ τ → IV a1 0 2147483647 → IV y2 0 127 → IV y3 0 127 → IV y4 0 127 → IV y5 0 1 → IV y6 0 7 → (SFm σ τ) → ((gV τ 23 0 2).toInt = (gV σ 23 0 2).toInt) → (TT τ y4.toInt (gV σ 23 0 2).toInt.toNat) → (y5.toInt = 0 ∨ y4.toInt + 1 = (pw (gV σ 23 0 2).toInt.toNat : Int) ∨ Wl τ y4.toInt.toNat 0 (gV σ 23 0 2).toInt.toNat) → (7 - y6.toInt).toNat < n → MW p l e { frames := 5, cells := 0, slots := 0, locals := 140 } s m args below meth c (MQ below (QP G (PI fun r τ => Inv τ ∧ Fr MS_X12_rescueS AS_X12_rescueS σ τ ∧ IV r (-2147483648) 2147483647 ∧ SFm σ τ)) args s 0 0 (aG G)) 7 G 0 0 102 [some (.ref (G.1 22 0)), some (.int a1), some (.int y2), some (.int y3), some (.int y4), some (.int y5), some (.int y6)] [] τ := by
        intro n
        induction n with
        | zero => intro τ y5 y6 iτ fτ b_a1 b_y2 b_y3 b_y4 b_y5 b_y6 v_SM n54 nT2 nW hm; exact absurd hm (Nat.not_lt_zero _)
        | succ n ih102 =>
          intro τ y5 y6 iτ fτ b_a1 b_y2 b_y3 b_y4 b_y5 b_y6 v_SM n54 nT2 nW hm102
          have u55 : IV (gV τ 23 0 2) 0 7 := iτ.1 23 0 2
          refine m_iload C dX12_rescue_102 rfl ?_
          refine m_aload_n C dX12_rescue_104 rfl rfl ?_
          refine g_22_0 C q4_116 dX12_rescue_105 ?_
          refine m_iconst (v := 2) C dX12_rescue_108 (by decide) ?_
          refine al_23 C kc_2 (by decide) kn_2 dX12_rescue_109 ?_
          refine m_eqs (w := (gV τ 23 0 2)) rfl ?_
          refine m_icmp_ge (tgt := 156) C dX12_rescue_110 (by decide) (fun c56 => ?_) (fun c56 => ?_)
          · have f57 : (gV τ 23 0 2).toInt ≤ y6.toInt := by
              have q : _ := c56
              simp only [ti_nle, ti_nlt, ti_le, ti_lt, ti_eq, ti_ne, Classical.not_not] at q
              omega
            refine m_aload_n C dX12_rescue_156 rfl rfl ?_
            refine g_22_18 C q4_134 dX12_rescue_157 ?_
            refine m_iload C dX12_rescue_160 rfl ?_
            refine m_iload C dX12_rescue_162 rfl ?_
            refine m_if_eq (tgt := 180) C dX12_rescue_164 (by decide) (fun c58 => ?_) (fun c58 => ?_)
            · have f59 : y5.toInt = 0 := by
                have q : _ := c58
                simp only [ti_nle, ti_nlt, ti_le, ti_lt, ti_eq, ti_ne, Classical.not_not, kt_0] at q
                omega
              have b60 : IV y5 0 0 := ⟨by have q1 := b_y5; have q2 := kc_0; omega, by have q1 := b_y5; have q2 := kc_0; omega⟩
              refine m_iconst (v := 0) C dX12_rescue_180 (by decide) ?_
              refine as_30 C b_y4 (by decide) rfl dX12_rescue_181 ?_
              obtain ⟨x61, ex61⟩ : ∃ y : Int32, y = vp_nar .boolean 0 := ⟨_, rfl⟩
              rw [← ex61]
              refine m_tops (fun τ62 eτ62 => ?_)
              have i63 : Inv τ62 := eτ62 ▸ Inv.putF iτ (by decide) rfl
              have f64 : Fr MS_X12_rescueS AS_X12_rescueS σ τ62 := eτ62 ▸ Fr.put (fτ) (Or.inr (by decide))
              have v65 : SFm σ τ62 := v_SM.putO eτ62 (by decide)
              obtain ⟨x66, ex66⟩ : ∃ y : Int32, y = y4 + (-1) := ⟨_, rfl⟩
              have tx66 : x66.toInt = y4.toInt + (-1) := by rw [ex66, ti_addv b_y4 kc_m1 (by decide), kt_m1]
              have b67 : IV x66 (-1) 126 := by rw [ex66]; exact iv_add b_y4 kc_m1 (by decide)
              refine m_iinc (v := x66) (L1 := [some (.ref (G.1 22 0)), some (.int a1), some (.int y2), some (.int y3), some (.int x66), some (.int y5), some (.int y6)]) C dX12_rescue_182 rfl (by rw [ex66]; rfl) (by decide) rfl rfl ?_
              refine m_goto (tgt := 81) C dX12_rescue_185 (by decide) ?_
              refine m_sub (L1 := [some (.ref (G.1 22 0)), some (.int a1), some (.int y2), some (.int y3), some (.int x66), none, none]) ⟨rfl, ⟨rfl, ⟨rfl, ⟨rfl, ⟨rfl, trivial⟩⟩⟩⟩⟩ ?_
              have q68 : (gV τ62 23 0 2).toInt = (gV τ 23 0 2).toInt := congrArg Int32.toInt (show (gV τ62 23 0 2) = (gV τ 23 0 2) from (show gV τ62 23 0 2 = (gV τ 23 0 2) from gV_put eτ62 rfl))
              exact ih81 τ62 y2 y3 x66 i63 f64 b_a1 b_y2 b_y3 (iv_wk b67 (by decide)) v65 (by omega) (by omega) (by omega) (by omega) (nT2.step (by omega) (by omega) (by omega) (by omega) (fun k hk => (gV_putn eτ62 (Or.inr (Or.inr hk))).trans ((fun _ => rfl) k)) (fun q => absurd (show (gV τ62 30 0 y4.toInt.toNat).toInt = 0 by rw [show gV τ62 30 0 y4.toInt.toNat = x61 from (show gV τ62 30 0 (y4.toInt.toNat) = x61 from gV_put eτ62 (gV_self _ _ _ _ _)), ex61]; decide) q)) (by have q := hm81; omega)
            · have f69 : y5.toInt ≠ 0 := by
                have q : _ := c58
                simp only [ti_nle, ti_nlt, ti_le, ti_lt, ti_eq, ti_ne, Classical.not_not, kt_0] at q
                omega
              have b70 : IV y5 1 1 := ⟨by have q1 := b_y5; have q2 := kc_0; omega, by have q1 := b_y5; have q2 := kc_0; omega⟩
              refine m_aload_n C dX12_rescue_167 rfl rfl ?_
              refine m_iload C dX12_rescue_168 rfl ?_
              refine m_callV (n := 1) (ci := 11) (st := [.int y4, .ref (G.1 30 0)]) C (c_X12_isSafeS l G τ (y4) iτ ) (by decide) (by decide) rfl rfl rfl q5_164 q5_161 q5_163 q0_47 q1_7 (by decide +kernel) rfl (by decide) (by decide) rfl (Nat.le_of_ble_eq_true rfl) dX12_rescue_170 ?_
              rintro _ τ71 ⟨x74, rfl, i72, f73, b75, h77⟩
              have g76 : Fr MS_X12_rescueS AS_X12_rescueS σ τ71 := Fr.call (fτ) f73 (by decide)
              have v78 : SFm σ τ71 := v_SM.trans h77.2
              have u79 : IV (gV τ71 23 0 2) 0 7 := i72.1 23 0 2
              show MW p l e _ s m args below meth c _ 7 G 0 0 173 [some (.ref (G.1 22 0)), some (.int a1), some (.int y2), some (.int y3), some (.int y4), some (.int y5), some (.int y6)] [.int x74, .int y4, .ref (G.1 30 0)] τ71
              refine m_if_eq (tgt := 180) C dX12_rescue_173 (by decide) (fun c80 => ?_) (fun c80 => ?_)
              · have f81 : x74.toInt = 0 := by
                  have q : _ := c80
                  simp only [ti_nle, ti_nlt, ti_le, ti_lt, ti_eq, ti_ne, Classical.not_not, kt_0] at q
                  omega
                have b82 : IV x74 0 0 := ⟨by have q1 := b75; have q2 := kc_0; omega, by have q1 := b75; have q2 := kc_0; omega⟩
                refine m_iconst (v := 0) C dX12_rescue_180 (by decide) ?_
                refine as_30 C b_y4 (by decide) rfl dX12_rescue_181 ?_
                obtain ⟨x83, ex83⟩ : ∃ y : Int32, y = vp_nar .boolean 0 := ⟨_, rfl⟩
                rw [← ex83]
                refine m_tops (fun τ84 eτ84 => ?_)
                have i85 : Inv τ84 := eτ84 ▸ Inv.putF i72 (by decide) rfl
                have f86 : Fr MS_X12_rescueS AS_X12_rescueS σ τ84 := eτ84 ▸ Fr.put (g76) (Or.inr (by decide))
                have v87 : SFm σ τ84 := v78.putO eτ84 (by decide)
                obtain ⟨x88, ex88⟩ : ∃ y : Int32, y = y4 + (-1) := ⟨_, rfl⟩
                have tx88 : x88.toInt = y4.toInt + (-1) := by rw [ex88, ti_addv b_y4 kc_m1 (by decide), kt_m1]
                have b89 : IV x88 (-1) 126 := by rw [ex88]; exact iv_add b_y4 kc_m1 (by decide)
                refine m_iinc (v := x88) (L1 := [some (.ref (G.1 22 0)), some (.int a1), some (.int y2), some (.int y3), some (.int x88), some (.int y5), some (.int y6)]) C dX12_rescue_182 rfl (by rw [ex88]; rfl) (by decide) rfl rfl ?_
                refine m_goto (tgt := 81) C dX12_rescue_185 (by decide) ?_
                refine m_sub (L1 := [some (.ref (G.1 22 0)), some (.int a1), some (.int y2), some (.int y3), some (.int x88), none, none]) ⟨rfl, ⟨rfl, ⟨rfl, ⟨rfl, ⟨rfl, trivial⟩⟩⟩⟩⟩ ?_
                have q90 : (gV τ84 23 0 2).toInt = (gV τ71 23 0 2).toInt := congrArg Int32.toInt (show (gV τ84 23 0 2) = (gV τ71 23 0 2) from (show gV τ84 23 0 2 = (gV τ71 23 0 2) from gV_put eτ84 rfl))
                exact ih81 τ84 y2 y3 x88 i85 f86 b_a1 b_y2 b_y3 (iv_wk b89 (by decide)) v87 (by omega) (by omega) (by omega) (by omega) (nT2.step (by omega) (by omega) (by omega) (by omega) (fun k hk => (gV_putn eτ84 (Or.inr (Or.inr hk))).trans ((fun k => (f73.1 30 0 k (by simp) (by decide)).trans ((fun _ => rfl) k)) k)) (fun q => absurd (show (gV τ84 30 0 y4.toInt.toNat).toInt = 0 by rw [show gV τ84 30 0 y4.toInt.toNat = x83 from (show gV τ84 30 0 (y4.toInt.toNat) = x83 from gV_put eτ84 (gV_self _ _ _ _ _)), ex83]; decide) q)) (by have q := hm81; omega)
              · have f91 : x74.toInt ≠ 0 := by
                  have q : _ := c80
                  simp only [ti_nle, ti_nlt, ti_le, ti_lt, ti_eq, ti_ne, Classical.not_not, kt_0] at q
                  omega
                have b92 : IV x74 1 1 := ⟨by have q1 := b75; have q2 := kc_0; omega, by have q1 := b75; have q2 := kc_0; omega⟩
                refine m_iconst (v := 1) C dX12_rescue_176 (by decide) ?_
                refine m_goto (tgt := 181) C dX12_rescue_177 (by decide) ?_
                refine as_30 C b_y4 (by decide) rfl dX12_rescue_181 ?_
                obtain ⟨x93, ex93⟩ : ∃ y : Int32, y = vp_nar .boolean 1 := ⟨_, rfl⟩
                rw [← ex93]
                refine m_tops (fun τ94 eτ94 => ?_)
                have i95 : Inv τ94 := eτ94 ▸ Inv.putF i72 (by decide) rfl
                have f96 : Fr MS_X12_rescueS AS_X12_rescueS σ τ94 := eτ94 ▸ Fr.put (g76) (Or.inr (by decide))
                have v97 : SFm σ τ94 := v78.putO eτ94 (by decide)
                obtain ⟨x98, ex98⟩ : ∃ y : Int32, y = y4 + (-1) := ⟨_, rfl⟩
                have tx98 : x98.toInt = y4.toInt + (-1) := by rw [ex98, ti_addv b_y4 kc_m1 (by decide), kt_m1]
                have b99 : IV x98 (-1) 126 := by rw [ex98]; exact iv_add b_y4 kc_m1 (by decide)
                refine m_iinc (v := x98) (L1 := [some (.ref (G.1 22 0)), some (.int a1), some (.int y2), some (.int y3), some (.int x98), some (.int y5), some (.int y6)]) C dX12_rescue_182 rfl (by rw [ex98]; rfl) (by decide) rfl rfl ?_
                refine m_goto (tgt := 81) C dX12_rescue_185 (by decide) ?_
                refine m_sub (L1 := [some (.ref (G.1 22 0)), some (.int a1), some (.int y2), some (.int y3), some (.int x98), none, none]) ⟨rfl, ⟨rfl, ⟨rfl, ⟨rfl, ⟨rfl, trivial⟩⟩⟩⟩⟩ ?_
                have q100 : (gV τ94 23 0 2).toInt = (gV τ71 23 0 2).toInt := congrArg Int32.toInt (show (gV τ94 23 0 2) = (gV τ71 23 0 2) from (show gV τ94 23 0 2 = (gV τ71 23 0 2) from gV_put eτ94 rfl))
                exact ih81 τ94 y2 y3 x98 i95 f96 b_a1 b_y2 b_y3 (iv_wk b99 (by decide)) v97 (by omega) (by omega) (by omega) (by omega) (nT2.step (by omega) (by omega) (by omega) (by omega) (fun k hk => (gV_putn eτ94 (Or.inr (Or.inr hk))).trans ((fun k => (f73.1 30 0 k (by simp) (by decide)).trans ((fun _ => rfl) k)) k)) (fun _ => nW.resolve_left (by omega))) (by have q := hm81; omega)
          · have f101 : y6.toInt < (gV τ 23 0 2).toInt := by
              have q : _ := c56
              simp only [ti_nle, ti_nlt, ti_le, ti_lt, ti_eq, ti_ne, Classical.not_not] at q
              omega
            have b102 : IV y6 0 6 := ⟨by have q1 := b_y6; have q2 := u55; omega, by have q1 := b_y6; have q2 := u55; omega⟩
            have b103 : IV (gV τ 23 0 2) 1 7 := ⟨by have q1 := b_y6; have q2 := u55; omega, by have q1 := b_y6; have q2 := u55; omega⟩
            refine m_iload C dX12_rescue_113 rfl ?_
            refine m_if_ne (tgt := 143) C dX12_rescue_115 (by decide) (fun c104 => ?_) (fun c104 => ?_)
            · have f105 : y5.toInt ≠ 0 := by
                have q : _ := c104
                simp only [ti_nle, ti_nlt, ti_le, ti_lt, ti_eq, ti_ne, Classical.not_not, kt_0] at q
                omega
              have b106 : IV y5 1 1 := ⟨by have q1 := b_y5; have q2 := kc_0; omega, by have q1 := b_y5; have q2 := kc_0; omega⟩
              refine m_iconst (v := 1) C dX12_rescue_143 (by decide) ?_
              refine m_goto (tgt := 148) C dX12_rescue_144 (by decide) ?_
              refine m_istore (L1 := [some (.ref (G.1 22 0)), some (.int a1), some (.int y2), some (.int y3), some (.int y4), some (.int 1), some (.int y6)]) C dX12_rescue_148 (by decide) rfl rfl ?_
              obtain ⟨x107, ex107⟩ : ∃ y : Int32, y = y6 + 1 := ⟨_, rfl⟩
              have tx107 : x107.toInt = y6.toInt + 1 := by rw [ex107, ti_addv b102 kc_1 (by decide), kt_1]
              have b108 : IV x107 1 7 := by rw [ex107]; exact iv_add b102 kc_1 (by decide)
              refine m_iinc (v := x107) (L1 := [some (.ref (G.1 22 0)), some (.int a1), some (.int y2), some (.int y3), some (.int y4), some (.int 1), some (.int x107)]) C dX12_rescue_150 rfl (by rw [ex107]; rfl) (by decide) rfl rfl ?_
              refine m_goto (tgt := 102) C dX12_rescue_153 (by decide) ?_
              exact ih102 τ 1 x107 iτ fτ b_a1 b_y2 b_y3 b_y4 (iv_wk kc_1 (by decide)) (iv_wk b108 (by decide)) v_SM (by omega) (nT2.eq (fun _ => rfl)) (Or.inr (nW.resolve_left (by omega))) (by have q := hm102; omega)
            · have f109 : y5.toInt = 0 := by
                have q : _ := c104
                simp only [ti_nle, ti_nlt, ti_le, ti_lt, ti_eq, ti_ne, Classical.not_not, kt_0] at q
                omega
              have b110 : IV y5 0 0 := ⟨by have q1 := b_y5; have q2 := kc_0; omega, by have q1 := b_y5; have q2 := kc_0; omega⟩
              refine m_iload C dX12_rescue_118 rfl ?_
              refine m_iload C dX12_rescue_120 rfl ?_
              refine m_callS (n := 2) (st := []) C (c_X12_hasE l G τ (y4) (y6) iτ b_y4 b102) q5_142 q5_140 q5_141 q1_7 (by decide +kernel) rfl (by decide) (by decide) rfl (Nat.le_of_ble_eq_true rfl) dX12_rescue_122 ?_
              rintro _ τ111 ⟨x114, rfl, i112, f113, b115, h117⟩
              have g116 : Fr MS_X12_rescueS AS_X12_rescueS σ τ111 := Fr.call (fτ) f113 (by decide)
              have v118 : SFm σ τ111 := v_SM.fr f113 (by simp) (by decide)
              have q119 : (gV τ111 23 0 2).toInt = (gV τ 23 0 2).toInt := congrArg Int32.toInt (show (gV τ111 23 0 2) = (gV τ 23 0 2) from (show gV τ111 23 0 2 = (gV τ 23 0 2) from (f113.1 23 0 (2) (by decide) (by decide)).trans rfl))
              show MW p l e _ s m args below meth c _ 7 G 0 0 125 [some (.ref (G.1 22 0)), some (.int a1), some (.int y2), some (.int y3), some (.int y4), some (.int y5), some (.int y6)] [.int x114] τ111
              refine m_if_ne (tgt := 147) C dX12_rescue_125 (by decide) (fun c120 => ?_) (fun c120 => ?_)
              · have f121 : x114.toInt ≠ 0 := by
                  have q : _ := c120
                  simp only [ti_nle, ti_nlt, ti_le, ti_lt, ti_eq, ti_ne, Classical.not_not, kt_0] at q
                  omega
                have b122 : IV x114 1 1 := ⟨by have q1 := b115; have q2 := kc_0; omega, by have q1 := b115; have q2 := kc_0; omega⟩
                refine m_iconst (v := 0) C dX12_rescue_147 (by decide) ?_
                refine m_istore (L1 := [some (.ref (G.1 22 0)), some (.int a1), some (.int y2), some (.int y3), some (.int y4), some (.int 0), some (.int y6)]) C dX12_rescue_148 (by decide) rfl rfl ?_
                obtain ⟨x123, ex123⟩ : ∃ y : Int32, y = y6 + 1 := ⟨_, rfl⟩
                have tx123 : x123.toInt = y6.toInt + 1 := by rw [ex123, ti_addv b102 kc_1 (by decide), kt_1]
                have b124 : IV x123 1 7 := by rw [ex123]; exact iv_add b102 kc_1 (by decide)
                refine m_iinc (v := x123) (L1 := [some (.ref (G.1 22 0)), some (.int a1), some (.int y2), some (.int y3), some (.int y4), some (.int 0), some (.int x123)]) C dX12_rescue_150 rfl (by rw [ex123]; rfl) (by decide) rfl rfl ?_
                refine m_goto (tgt := 102) C dX12_rescue_153 (by decide) ?_
                exact ih102 τ111 0 x123 i112 g116 b_a1 b_y2 b_y3 b_y4 (iv_wk kc_0 (by decide)) (iv_wk b124 (by decide)) v118 (by omega) (nT2.eq (fun k => (f113.1 30 0 k (by simp) (by decide)).trans ((fun _ => rfl) k))) (Or.inl kt_0) (by have q := hm102; omega)
              · have f125 : x114.toInt = 0 := by
                  have q : _ := c120
                  simp only [ti_nle, ti_nlt, ti_le, ti_lt, ti_eq, ti_ne, Classical.not_not, kt_0] at q
                  omega
                have b126 : IV x114 0 0 := ⟨by have q1 := b115; have q2 := kc_0; omega, by have q1 := b115; have q2 := kc_0; omega⟩
                refine m_aload_n C dX12_rescue_128 rfl rfl ?_
                refine g_22_18 C q4_134 dX12_rescue_129 ?_
                refine m_iload C dX12_rescue_132 rfl ?_
                refine m_iconst (v := 1) C dX12_rescue_134 (by decide) ?_
                refine m_iload C dX12_rescue_135 rfl ?_
                refine m_ishl C dX12_rescue_137 ?_
                refine m_topi (fun x127 ex127 => ?_)
                have b128 : IV x127 1 64 := by rw [ex127]; exact iv_shl1 b102 (by decide)
                refine m_ior C dX12_rescue_138 ?_
                refine m_topi (fun x129 ex129 => ?_)
                have b130 : IV x129 0 127 := by rw [ex129]; exact iv_or 7 b_y4 b128 (by decide)
                have q131 : x129.toInt.toNat = ob y4.toInt.toNat y6.toInt.toNat := or_i ex129 ex127 b_y4 b102
                refine al_30 C b130 (by decide) rfl dX12_rescue_139 ?_
                refine m_topi (fun x132 ex132 => ?_)
                have q133 : (gV τ111 30 0 (ob y4.toInt.toNat y6.toInt.toNat)).toInt = x132.toInt := by rw [← q131, ← ex132]
                refine m_if_eq (tgt := 147) C dX12_rescue_140 (by decide) (fun c134 => ?_) (fun c134 => ?_)
                · have f135 : x132.toInt = 0 := by
                    have q : _ := c134
                    simp only [ti_nle, ti_nlt, ti_le, ti_lt, ti_eq, ti_ne, Classical.not_not, kt_0] at q
                    omega
                  have b136 : IV x132 0 0 := ⟨by have q1 := (iv_any x132); have q2 := kc_0; omega, by have q1 := (iv_any x132); have q2 := kc_0; omega⟩
                  refine m_iconst (v := 0) C dX12_rescue_147 (by decide) ?_
                  refine m_istore (L1 := [some (.ref (G.1 22 0)), some (.int a1), some (.int y2), some (.int y3), some (.int y4), some (.int 0), some (.int y6)]) C dX12_rescue_148 (by decide) rfl rfl ?_
                  obtain ⟨x137, ex137⟩ : ∃ y : Int32, y = y6 + 1 := ⟨_, rfl⟩
                  have tx137 : x137.toInt = y6.toInt + 1 := by rw [ex137, ti_addv b102 kc_1 (by decide), kt_1]
                  have b138 : IV x137 1 7 := by rw [ex137]; exact iv_add b102 kc_1 (by decide)
                  refine m_iinc (v := x137) (L1 := [some (.ref (G.1 22 0)), some (.int a1), some (.int y2), some (.int y3), some (.int y4), some (.int 0), some (.int x137)]) C dX12_rescue_150 rfl (by rw [ex137]; rfl) (by decide) rfl rfl ?_
                  refine m_goto (tgt := 102) C dX12_rescue_153 (by decide) ?_
                  exact ih102 τ111 0 x137 i112 g116 b_a1 b_y2 b_y3 b_y4 (iv_wk kc_0 (by decide)) (iv_wk b138 (by decide)) v118 (by omega) (nT2.eq (fun k => (f113.1 30 0 k (by simp) (by decide)).trans ((fun _ => rfl) k))) (Or.inl kt_0) (by have q := hm102; omega)
                · have f139 : x132.toInt ≠ 0 := by
                    have q : _ := c134
                    simp only [ti_nle, ti_nlt, ti_le, ti_lt, ti_eq, ti_ne, Classical.not_not, kt_0] at q
                    omega
                  refine m_iconst (v := 1) C dX12_rescue_143 (by decide) ?_
                  refine m_goto (tgt := 148) C dX12_rescue_144 (by decide) ?_
                  refine m_istore (L1 := [some (.ref (G.1 22 0)), some (.int a1), some (.int y2), some (.int y3), some (.int y4), some (.int 1), some (.int y6)]) C dX12_rescue_148 (by decide) rfl rfl ?_
                  obtain ⟨x140, ex140⟩ : ∃ y : Int32, y = y6 + 1 := ⟨_, rfl⟩
                  have tx140 : x140.toInt = y6.toInt + 1 := by rw [ex140, ti_addv b102 kc_1 (by decide), kt_1]
                  have b141 : IV x140 1 7 := by rw [ex140]; exact iv_add b102 kc_1 (by decide)
                  refine m_iinc (v := x140) (L1 := [some (.ref (G.1 22 0)), some (.int a1), some (.int y2), some (.int y3), some (.int y4), some (.int 1), some (.int x140)]) C dX12_rescue_150 rfl (by rw [ex140]; rfl) (by decide) rfl rfl ?_
                  refine m_goto (tgt := 102) C dX12_rescue_153 (by decide) ?_
                  exact ih102 τ111 1 x140 i112 g116 b_a1 b_y2 b_y3 b_y4 (iv_wk kc_1 (by decide)) (iv_wk b141 (by decide)) v118 (by omega) (nT2.eq (fun k => (f113.1 30 0 k (by simp) (by decide)).trans ((fun _ => rfl) k))) (Or.inr (Or.inr ⟨y6.toInt.toNat, Nat.zero_le _, by omega, by omega, by omega⟩)) (by have q := hm102; omega)
      have u142 : IV (gV τ 23 0 2) 0 7 := iτ.1 23 0 2
      refine m_iload C dX12_rescue_81 rfl ?_
      refine m_if_lt (tgt := 188) C dX12_rescue_83 (by decide) (fun c143 => ?_) (fun c143 => ?_)
      · have f144 : y4.toInt < 0 := by
          have q : _ := c143
          simp only [ti_nle, ti_nlt, ti_le, ti_lt, ti_eq, ti_ne, Classical.not_not, kt_0] at q
          omega
        have b145 : IV y4 (-1) (-1) := ⟨by have q1 := b_y4; have q2 := kc_0; omega, by have q1 := b_y4; have q2 := kc_0; omega⟩
        refine m_aload_n C dX12_rescue_188 rfl rfl ?_
        refine g_22_18 C q4_134 dX12_rescue_189 ?_
        refine m_iload_n C dX12_rescue_192 rfl rfl ?_
        refine al_30 C b_y2 (by decide) rfl dX12_rescue_193 ?_
        refine m_topi (fun x146 ex146 => ?_)
        have q147 : (gV τ 30 0 y2.toInt.toNat).toInt = x146.toInt := by rw [← ex146]
        refine m_if_eq (tgt := 212) C dX12_rescue_194 (by decide) (fun c148 => ?_) (fun c148 => ?_)
        · have f149 : x146.toInt = 0 := by
            have q : _ := c148
            simp only [ti_nle, ti_nlt, ti_le, ti_lt, ti_eq, ti_ne, Classical.not_not, kt_0] at q
            omega
          have b150 : IV x146 0 0 := ⟨by have q1 := (iv_any x146); have q2 := kc_0; omega, by have q1 := (iv_any x146); have q2 := kc_0; omega⟩
          refine m_ldc (v := (-1000000)) C dX12_rescue_212 q5_70 ?_
          exact m_iret C hr hlk (by decide) (by decide) dX12_rescue_214 ⟨_, rfl, iτ, fτ, (iv_wk kc_m1000000 (by decide)), v_SM⟩
        · have f151 : x146.toInt ≠ 0 := by
            have q : _ := c148
            simp only [ti_nle, ti_nlt, ti_le, ti_lt, ti_eq, ti_ne, Classical.not_not, kt_0] at q
            omega
          refine m_iload_n C dX12_rescue_197 rfl rfl ?_
          refine m_aload_n C dX12_rescue_198 rfl rfl ?_
          refine g_22_0 C q4_116 dX12_rescue_199 ?_
          refine m_iconst (v := 2) C dX12_rescue_202 (by decide) ?_
          refine al_23 C kc_2 (by decide) kn_2 dX12_rescue_203 ?_
          refine m_eqs (w := (gV τ 23 0 2)) rfl ?_
          refine m_iload_n C dX12_rescue_204 rfl rfl ?_
          refine m_callS (n := 1) (st := [.int (gV τ 23 0 2), .int a1]) C (c_X12_onesE l G τ (y2) iτ b_y2) q5_139 q5_137 q5_138 q1_7 (by decide +kernel) rfl (by decide) (by decide) rfl (Nat.le_of_ble_eq_true rfl) dX12_rescue_205 ?_
          rintro _ τ152 ⟨x155, rfl, i153, f154, b156, h158⟩
          have g157 : Fr MS_X12_rescueS AS_X12_rescueS σ τ152 := Fr.call (fτ) f154 (by decide)
          have v159 : SFm σ τ152 := v_SM.fr f154 (by simp) (by decide)
          have q160 : (gV τ152 23 0 2).toInt = (gV τ 23 0 2).toInt := congrArg Int32.toInt (show (gV τ152 23 0 2) = (gV τ 23 0 2) from (show gV τ152 23 0 2 = (gV τ 23 0 2) from (f154.1 23 0 (2) (by decide) (by decide)).trans rfl))
          show MW p l e _ s m args below meth c _ 7 G 0 0 208 [some (.ref (G.1 22 0)), some (.int a1), some (.int y2), some (.int y3), some (.int y4), none, none] [.int x155, .int (gV τ 23 0 2), .int a1] τ152
          refine m_isub C dX12_rescue_208 ?_
          refine m_topi (fun x161 ex161 => ?_)
          have tx161 : x161.toInt = (gV τ 23 0 2).toInt - x155.toInt := by rw [ex161, ti_subv u142 b156 (by decide)]
          have b162 : IV x161 (-7) 7 := by rw [ex161]; exact iv_sub u142 b156 (by decide)
          refine m_icmp_lt (tgt := 215) C dX12_rescue_209 (by decide) (fun c163 => ?_) (fun c163 => ?_)
          · have f164 : a1.toInt < x161.toInt := by
              have q : _ := c163
              simp only [ti_nle, ti_nlt, ti_le, ti_lt, ti_eq, ti_ne, Classical.not_not] at q
              omega
            have b165 : IV a1 0 6 := ⟨by have q1 := b_a1; have q2 := b162; omega, by have q1 := b_a1; have q2 := b162; omega⟩
            have b166 : IV x161 1 7 := ⟨by have q1 := b_a1; have q2 := b162; omega, by have q1 := b_a1; have q2 := b162; omega⟩
            refine m_iload_n C dX12_rescue_215 rfl rfl ?_
            refine m_istore (L1 := [some (.ref (G.1 22 0)), some (.int a1), some (.int y2), some (.int y3), some (.int y2), none, none]) C dX12_rescue_216 (by decide) rfl rfl ?_
            refine m_iconst (v := 0) C dX12_rescue_218 (by decide) ?_
            refine m_istore (L1 := [some (.ref (G.1 22 0)), some (.int a1), some (.int y2), some (.int y3), some (.int y2), some (.int 0), none]) C dX12_rescue_219 (by decide) rfl rfl ?_
            refine m_iconst (v := 0) C dX12_rescue_221 (by decide) ?_
            refine m_istore (L1 := [some (.ref (G.1 22 0)), some (.int a1), some (.int y2), some (.int y3), some (.int y2), some (.int 0), some (.int 0)]) C dX12_rescue_222 (by decide) rfl rfl ?_
            refine m_sub (L1 := [some (.ref (G.1 22 0)), some (.int a1), none, none, some (.int y2), some (.int 0), some (.int 0)]) ⟨rfl, ⟨rfl, ⟨rfl, ⟨rfl, ⟨rfl, trivial⟩⟩⟩⟩⟩ ?_
            exact J224 ((7 - (0 : Int32).toInt).toNat + 1) τ152 y2 0 0 i153 g157 b165 b_y2 (iv_wk kc_0 (by decide)) (iv_wk kc_0 (by decide)) v159 ((nT.eq (fun k => (f154.1 30 0 k (by simp) (by decide)).trans ((fun _ => rfl) k))).cast (by omega)) (by rw [(fun k => (f154.1 30 0 k (by simp) (by decide)).trans ((fun _ => rfl) k)) _]; omega) (by omega) (by omega) (Nat.lt_succ_self _)
          · have f167 : x161.toInt ≤ a1.toInt := by
              have q : _ := c163
              simp only [ti_nle, ti_nlt, ti_le, ti_lt, ti_eq, ti_ne, Classical.not_not] at q
              omega
            refine m_ldc (v := (-1000000)) C dX12_rescue_212 q5_70 ?_
            exact m_iret C hr hlk (by decide) (by decide) dX12_rescue_214 ⟨_, rfl, i153, g157, (iv_wk kc_m1000000 (by decide)), v159⟩
      · have f168 : 0 ≤ y4.toInt := by
          have q : _ := c143
          simp only [ti_nle, ti_nlt, ti_le, ti_lt, ti_eq, ti_ne, Classical.not_not, kt_0] at q
          omega
        have b169 : IV y4 0 127 := ⟨by have q1 := kc_0; have q2 := b_y4; omega, by have q1 := kc_0; have q2 := b_y4; omega⟩
        refine m_iload C dX12_rescue_86 rfl ?_
        refine m_iload_n C dX12_rescue_88 rfl rfl ?_
        refine m_icmp_ne (tgt := 96) C dX12_rescue_89 (by decide) (fun c170 => ?_) (fun c170 => ?_)
        · have f171 : y4.toInt ≠ y3.toInt := by
            have q : _ := c170
            simp only [ti_nle, ti_nlt, ti_le, ti_lt, ti_eq, ti_ne, Classical.not_not] at q
            omega
          refine m_iconst (v := 0) C dX12_rescue_96 (by decide) ?_
          refine m_istore (L1 := [some (.ref (G.1 22 0)), some (.int a1), some (.int y2), some (.int y3), some (.int y4), some (.int 0), none]) C dX12_rescue_97 (by decide) rfl rfl ?_
          refine m_iconst (v := 0) C dX12_rescue_99 (by decide) ?_
          refine m_istore (L1 := [some (.ref (G.1 22 0)), some (.int a1), some (.int y2), some (.int y3), some (.int y4), some (.int 0), some (.int 0)]) C dX12_rescue_100 (by decide) rfl rfl ?_
          exact J102 ((7 - (0 : Int32).toInt).toNat + 1) τ 0 0 iτ fτ b_a1 b_y2 b_y3 b169 (iv_wk kc_0 (by decide)) (iv_wk kc_0 (by decide)) v_SM (by omega) nT (Or.inl kt_0) (Nat.lt_succ_self _)
        · have f172 : y4.toInt = y3.toInt := by
            have q : _ := c170
            simp only [ti_nle, ti_nlt, ti_le, ti_lt, ti_eq, ti_ne, Classical.not_not] at q
            omega
          refine m_iconst (v := 1) C dX12_rescue_92 (by decide) ?_
          refine m_goto (tgt := 97) C dX12_rescue_93 (by decide) ?_
          refine m_istore (L1 := [some (.ref (G.1 22 0)), some (.int a1), some (.int y2), some (.int y3), some (.int y4), some (.int 1), none]) C dX12_rescue_97 (by decide) rfl rfl ?_
          refine m_iconst (v := 0) C dX12_rescue_99 (by decide) ?_
          refine m_istore (L1 := [some (.ref (G.1 22 0)), some (.int a1), some (.int y2), some (.int y3), some (.int y4), some (.int 1), some (.int 0)]) C dX12_rescue_100 (by decide) rfl rfl ?_
          exact J102 ((7 - (0 : Int32).toInt).toNat + 1) τ 1 0 iτ fτ b_a1 b_y2 b_y3 b169 (iv_wk kc_1 (by decide)) (iv_wk kc_0 (by decide)) v_SM (by omega) nT (Or.inr (Or.inl (by omega))) (Nat.lt_succ_self _)
  have J21 : ∀ (n : Nat) (τ : Sg) (y2 : Int32) (y3 : Int32), Inv τ → Fr MS_X12_rescueS AS_X12_rescueS σ τ → IV a1 0 2147483647 → IV y2 0 127 → IV y3 0 7 → (SFm σ τ) → ((gV τ 23 0 2).toInt = (gV σ 23 0 2).toInt) → (y2.toInt.toNat < pw (gV σ 23 0 2).toInt.toNat) → (7 - y3.toInt).toNat < n → MW p l e { frames := 5, cells := 0, slots := 0, locals := 140 } s m args below meth c (MQ below (QP G (PI fun r τ => Inv τ ∧ Fr MS_X12_rescueS AS_X12_rescueS σ τ ∧ IV r (-2147483648) 2147483647 ∧ SFm σ τ)) args s 0 0 (aG G)) 7 G 0 0 21 [some (.ref (G.1 22 0)), some (.int a1), some (.int y2), some (.int y3), none, none, none] [] τ := by
    intro n
    induction n with
    | zero => intro τ y2 y3 iτ fτ b_a1 b_y2 b_y3 v_SM n173 n174 hm; exact absurd hm (Nat.not_lt_zero _)
    | succ n ih21 =>
      intro τ y2 y3 iτ fτ b_a1 b_y2 b_y3 v_SM n173 n174 hm21
      have u175 : IV (gV τ 23 0 2) 0 7 := iτ.1 23 0 2
      refine m_iload_n C dX12_rescue_21 rfl rfl ?_
      refine m_aload_n C dX12_rescue_22 rfl rfl ?_
      refine g_22_0 C q4_116 dX12_rescue_23 ?_
      refine m_iconst (v := 2) C dX12_rescue_26 (by decide) ?_
      refine al_23 C kc_2 (by decide) kn_2 dX12_rescue_27 ?_
      refine m_eqs (w := (gV τ 23 0 2)) rfl ?_
      refine m_icmp_ge (tgt := 59) C dX12_rescue_28 (by decide) (fun c176 => ?_) (fun c176 => ?_)
      · have f177 : (gV τ 23 0 2).toInt ≤ y3.toInt := by
          have q : _ := c176
          simp only [ti_nle, ti_nlt, ti_le, ti_lt, ti_eq, ti_ne, Classical.not_not] at q
          omega
        refine m_aload_n C dX12_rescue_59 rfl rfl ?_
        refine m_iconst (v := 0) C dX12_rescue_60 (by decide) ?_
        refine m_sipush (v := 200) C dX12_rescue_61 (by decide) ?_
        have q178 := kt_0
        have q179 := kt_200
        refine m_callV (n := 2) (ci := 11) (st := []) C (c_X12_copyAll l G τ (0) (200) iτ (iv_wk kc_0 (by decide)) (iv_wk kc_200 (by decide)) (by omega) (by omega) (by omega) (Or.inl (by omega))) (by decide) (by decide) rfl rfl rfl q5_38 q5_35 q5_37 q0_35 q1_7 (by decide +kernel) rfl (by decide) (by decide) rfl (Nat.le_of_ble_eq_true rfl) dX12_rescue_64 ?_
        rintro _ τ180 ⟨rfl, i181, f182, h186⟩
        have g185 : Fr MS_X12_rescueS AS_X12_rescueS σ τ180 := Fr.call (fτ) f182 (by decide)
        have v187 : SFm σ τ180 := v_SM.cp h186 (by decide)
        have u188 : IV (gV τ180 23 0 2) 0 7 := i181.1 23 0 2
        have q189 : (gV τ180 23 0 2).toInt = (gV τ 23 0 2).toInt := congrArg Int32.toInt (h186.2.2 23 0 2 (Or.inr (Or.inr (Or.inl (by decide)))))
        show MW p l e _ s m args below meth c _ 7 G 0 0 67 [some (.ref (G.1 22 0)), some (.int a1), some (.int y2), some (.int y3), none, none, none] [] τ180
        refine m_iconst (v := 1) C dX12_rescue_67 (by decide) ?_
        refine m_aload_n C dX12_rescue_68 rfl rfl ?_
        refine g_22_0 C q4_116 dX12_rescue_69 ?_
        refine m_iconst (v := 2) C dX12_rescue_72 (by decide) ?_
        refine al_23 C kc_2 (by decide) kn_2 dX12_rescue_73 ?_
        refine m_eqs (w := (gV τ180 23 0 2)) rfl ?_
        refine m_ishl C dX12_rescue_74 ?_
        refine m_topi (fun x190 ex190 => ?_)
        have b191 : IV x190 1 128 := by rw [ex190]; exact iv_shl1 u188 (by decide)
        have q192 : x190.toInt = (pw (gV τ180 23 0 2).toInt.toNat : Int) := shl_pw ex190 u188
        rw [show (gV τ180 23 0 2).toInt.toNat = (gV σ 23 0 2).toInt.toNat by omega] at q192
        refine m_iconst (v := 1) C dX12_rescue_75 (by decide) ?_
        refine m_isub C dX12_rescue_76 ?_
        refine m_topi (fun x193 ex193 => ?_)
        have tx193 : x193.toInt = x190.toInt - 1 := by rw [ex193, ti_subv b191 kc_1 (by decide), kt_1]
        have b194 : IV x193 0 127 := by rw [ex193]; exact iv_sub b191 kc_1 (by decide)
        refine m_istore_n (L1 := [some (.ref (G.1 22 0)), some (.int a1), some (.int y2), some (.int x193), none, none, none]) C dX12_rescue_77 rfl (by decide) rfl rfl ?_
        refine m_iload_n C dX12_rescue_78 rfl rfl ?_
        refine m_istore (L1 := [some (.ref (G.1 22 0)), some (.int a1), some (.int y2), some (.int x193), some (.int x193), none, none]) C dX12_rescue_79 (by decide) rfl rfl ?_
        exact J81 ((x193.toInt - (-1)).toNat + 1) τ180 y2 x193 x193 i181 g185 b_a1 b_y2 b194 (iv_wk b194 (by decide)) v187 (by omega) (by omega) (by omega) (by omega) (TT.top (by omega)) (Nat.lt_succ_self _)
      · have f195 : y3.toInt < (gV τ 23 0 2).toInt := by
          have q : _ := c176
          simp only [ti_nle, ti_nlt, ti_le, ti_lt, ti_eq, ti_ne, Classical.not_not] at q
          omega
        have b196 : IV y3 0 6 := ⟨by have q1 := b_y3; have q2 := u175; omega, by have q1 := b_y3; have q2 := u175; omega⟩
        have b197 : IV (gV τ 23 0 2) 1 7 := ⟨by have q1 := b_y3; have q2 := u175; omega, by have q1 := b_y3; have q2 := u175; omega⟩
        refine m_iload_n C dX12_rescue_31 rfl rfl ?_
        refine m_aload_n C dX12_rescue_32 rfl rfl ?_
        refine g_22_0 C q4_116 dX12_rescue_33 ?_
        refine m_bipush (v := 24) C dX12_rescue_36 (by decide) ?_
        refine m_iload_n C dX12_rescue_38 rfl rfl ?_
        refine m_iadd C dX12_rescue_39 ?_
        refine m_topi (fun x198 ex198 => ?_)
        have tx198 : x198.toInt = 24 + y3.toInt := by rw [ex198, ti_addv kc_24 b196 (by decide), kt_24]
        have b199 : IV x198 24 30 := by rw [ex198]; exact iv_add kc_24 b196 (by decide)
        refine al_23 C b199 (by decide) rfl dX12_rescue_40 ?_
        refine m_topi (fun x200 ex200 => ?_)
        refine m_if_ge (tgt := 50) C dX12_rescue_41 (by decide) (fun c201 => ?_) (fun c201 => ?_)
        · have f202 : 0 ≤ x200.toInt := by
            have q : _ := c201
            simp only [ti_nle, ti_nlt, ti_le, ti_lt, ti_eq, ti_ne, Classical.not_not, kt_0] at q
            omega
          have b203 : IV x200 0 2147483647 := ⟨by have q1 := kc_0; have q2 := (iv_any x200); omega, by have q1 := kc_0; have q2 := (iv_any x200); omega⟩
          refine m_iconst (v := 0) C dX12_rescue_50 (by decide) ?_
          refine m_ior C dX12_rescue_51 ?_
          refine m_topi (fun x204 ex204 => ?_)
          have b205 : IV x204 0 127 := by rw [ex204]; exact iv_or 7 b_y2 kc_0 (by decide)
          have q206 : x204.toInt.toNat = y2.toInt.toNat := or_0 ex204
          refine m_istore_n (L1 := [some (.ref (G.1 22 0)), some (.int a1), some (.int x204), some (.int y3), none, none, none]) C dX12_rescue_52 rfl (by decide) rfl rfl ?_
          obtain ⟨x207, ex207⟩ : ∃ y : Int32, y = y3 + 1 := ⟨_, rfl⟩
          have tx207 : x207.toInt = y3.toInt + 1 := by rw [ex207, ti_addv b196 kc_1 (by decide), kt_1]
          have b208 : IV x207 1 7 := by rw [ex207]; exact iv_add b196 kc_1 (by decide)
          refine m_iinc (v := x207) (L1 := [some (.ref (G.1 22 0)), some (.int a1), some (.int x204), some (.int x207), none, none, none]) C dX12_rescue_53 rfl (by rw [ex207]; rfl) (by decide) rfl rfl ?_
          refine m_goto (tgt := 21) C dX12_rescue_56 (by decide) ?_
          exact ih21 τ x204 x207 iτ fτ b_a1 b205 (iv_wk b208 (by decide)) v_SM (by omega) (by omega) (by have q := hm21; omega)
        · have f209 : x200.toInt < 0 := by
            have q : _ := c201
            simp only [ti_nle, ti_nlt, ti_le, ti_lt, ti_eq, ti_ne, Classical.not_not, kt_0] at q
            omega
          have b210 : IV x200 (-2147483648) (-1) := ⟨by have q1 := (iv_any x200); have q2 := kc_0; omega, by have q1 := (iv_any x200); have q2 := kc_0; omega⟩
          refine m_iconst (v := 1) C dX12_rescue_44 (by decide) ?_
          refine m_iload_n C dX12_rescue_45 rfl rfl ?_
          refine m_ishl C dX12_rescue_46 ?_
          refine m_topi (fun x211 ex211 => ?_)
          have b212 : IV x211 1 64 := by rw [ex211]; exact iv_shl1 b196 (by decide)
          refine m_goto (tgt := 51) C dX12_rescue_47 (by decide) ?_
          refine m_ior C dX12_rescue_51 ?_
          refine m_topi (fun x213 ex213 => ?_)
          have b214 : IV x213 0 127 := by rw [ex213]; exact iv_or 7 b_y2 b212 (by decide)
          have q215 : x213.toInt.toNat = ob y2.toInt.toNat y3.toInt.toNat := or_i ex213 ex211 b_y2 b196
          have q216 : x213.toInt.toNat < pw (gV σ 23 0 2).toInt.toNat := by rw [q215]; exact ob_lt (by omega) (by omega)
          refine m_istore_n (L1 := [some (.ref (G.1 22 0)), some (.int a1), some (.int x213), some (.int y3), none, none, none]) C dX12_rescue_52 rfl (by decide) rfl rfl ?_
          obtain ⟨x217, ex217⟩ : ∃ y : Int32, y = y3 + 1 := ⟨_, rfl⟩
          have tx217 : x217.toInt = y3.toInt + 1 := by rw [ex217, ti_addv b196 kc_1 (by decide), kt_1]
          have b218 : IV x217 1 7 := by rw [ex217]; exact iv_add b196 kc_1 (by decide)
          refine m_iinc (v := x217) (L1 := [some (.ref (G.1 22 0)), some (.int a1), some (.int x213), some (.int x217), none, none, none]) C dX12_rescue_53 rfl (by rw [ex217]; rfl) (by decide) rfl rfl ?_
          refine m_goto (tgt := 21) C dX12_rescue_56 (by decide) ?_
          exact ih21 τ x213 x217 iτ fτ b_a1 b214 (iv_wk b218 (by decide)) v_SM (by omega) (by omega) (by have q := hm21; omega)
  have u219 : IV (gV σ 23 0 2) 0 7 := hI.1 23 0 2
  refine m_aload_n C dX12_rescue_0 rfl rfl ?_
  refine m_callV (n := 0) (ci := 11) (st := []) C (c_X12_isTower l G σ  hI ) (by decide) (by decide) rfl rfl rfl q5_67 q5_64 q5_66 q0_38 q1_7 (by decide +kernel) rfl (by decide) (by decide) rfl (Nat.le_of_ble_eq_true rfl) dX12_rescue_1 ?_
  rintro _ τ220 ⟨x223, rfl, i221, f222, b224⟩
  have g225 : Fr MS_X12_rescueS AS_X12_rescueS σ τ220 := Fr.call (Fr.rf) f222 (by decide)
  have v227 : SFm σ τ220 := SFm.rf.fr f222 (by simp) (by decide)
  show MW p l e _ s m args below meth c _ 7 G 0 0 4 [some (.ref (G.1 22 0)), some (.int a1), none, none, none, none, none] [.int x223] τ220
  refine m_if_ne (tgt := 10) C dX12_rescue_4 (by decide) (fun c228 => ?_) (fun c228 => ?_)
  · have f229 : x223.toInt ≠ 0 := by
      have q : _ := c228
      simp only [ti_nle, ti_nlt, ti_le, ti_lt, ti_eq, ti_ne, Classical.not_not, kt_0] at q
      omega
    have b230 : IV x223 1 1 := ⟨by have q1 := b224; have q2 := kc_0; omega, by have q1 := b224; have q2 := kc_0; omega⟩
    refine m_iload_n C dX12_rescue_10 rfl rfl ?_
    refine m_if_ge (tgt := 17) C dX12_rescue_11 (by decide) (fun c231 => ?_) (fun c231 => ?_)
    · have f232 : 0 ≤ a1.toInt := by
        have q : _ := c231
        simp only [ti_nle, ti_nlt, ti_le, ti_lt, ti_eq, ti_ne, Classical.not_not, kt_0] at q
        omega
      have b233 : IV a1 0 2147483647 := ⟨by have q1 := kc_0; have q2 := (iv_any a1); omega, by have q1 := kc_0; have q2 := (iv_any a1); omega⟩
      refine m_iconst (v := 0) C dX12_rescue_17 (by decide) ?_
      refine m_istore_n (L1 := [some (.ref (G.1 22 0)), some (.int a1), some (.int 0), none, none, none, none]) C dX12_rescue_18 rfl (by decide) rfl rfl ?_
      refine m_iconst (v := 0) C dX12_rescue_19 (by decide) ?_
      have q234 := pw_pos (gV σ 23 0 2).toInt.toNat
      have q235 := kt_0
      have q236 := kn_0
      refine m_istore_n (L1 := [some (.ref (G.1 22 0)), some (.int a1), some (.int 0), some (.int 0), none, none, none]) C dX12_rescue_20 rfl (by decide) rfl rfl ?_
      have q237 : (gV τ220 23 0 2).toInt = (gV σ 23 0 2).toInt := congrArg Int32.toInt (show (gV τ220 23 0 2) = (gV σ 23 0 2) from (show gV τ220 23 0 2 = (gV σ 23 0 2) from (f222.1 23 0 (2) (by decide) (by decide)).trans rfl))
      exact J21 ((7 - (0 : Int32).toInt).toNat + 1) τ220 0 0 i221 g225 b233 (iv_wk kc_0 (by decide)) (iv_wk kc_0 (by decide)) v227 (by omega) (by omega) (Nat.lt_succ_self _)
    · have f238 : a1.toInt < 0 := by
        have q : _ := c231
        simp only [ti_nle, ti_nlt, ti_le, ti_lt, ti_eq, ti_ne, Classical.not_not, kt_0] at q
        omega
      have b239 : IV a1 (-2147483648) (-1) := ⟨by have q1 := (iv_any a1); have q2 := kc_0; omega, by have q1 := (iv_any a1); have q2 := kc_0; omega⟩
      refine m_ldc (v := (-1000001)) C dX12_rescue_14 q4_192 ?_
      have q240 : (gV τ220 23 0 2).toInt = (gV σ 23 0 2).toInt := congrArg Int32.toInt (show (gV τ220 23 0 2) = (gV σ 23 0 2) from (show gV τ220 23 0 2 = (gV σ 23 0 2) from (f222.1 23 0 (2) (by decide) (by decide)).trans rfl))
      exact m_iret C hr hlk (by decide) (by decide) dX12_rescue_16 ⟨_, rfl, i221, g225, (iv_wk kc_m1000001 (by decide)), v227⟩
  · have f241 : x223.toInt = 0 := by
      have q : _ := c228
      simp only [ti_nle, ti_nlt, ti_le, ti_lt, ti_eq, ti_ne, Classical.not_not, kt_0] at q
      omega
    have b242 : IV x223 0 0 := ⟨by have q1 := b224; have q2 := kc_0; omega, by have q1 := b224; have q2 := kc_0; omega⟩
    refine m_ldc (v := (-1000002)) C dX12_rescue_7 q5_68 ?_
    have q243 : (gV τ220 23 0 2).toInt = (gV σ 23 0 2).toInt := congrArg Int32.toInt (show (gV τ220 23 0 2) = (gV σ 23 0 2) from (show gV τ220 23 0 2 = (gV σ 23 0 2) from (f222.1 23 0 (2) (by decide) (by decide)).trans rfl))
    exact m_iret C hr hlk (by decide) (by decide) dX12_rescue_9 ⟨_, rfl, i221, g225, (iv_wk kc_m1000002 (by decide)), v227⟩

abbrev MS_X12_mindsS : List (Nat × Nat) := [(22, 9)]
abbrev AS_X12_mindsS : List Nat := [23]
set_option maxHeartbeats 4000000 in
set_option maxRecDepth 100000 in
theorem c_X12_mindsS (l : Launch) (G : Gt) (σ : Sg) (S : Stt) (I : Nat → Stt) (hI : Inv σ) (hMA : MA σ S I) : Mc l G yX12_minds cX12_minds 2 none 1 23 0 0 [.ref (G.1 22 0)] σ (PV fun τ => Inv τ ∧ Fr MS_X12_mindsS AS_X12_mindsS σ τ ∧ MA τ S I) := by
  refine Mc.of (L0 := [some (.ref (G.1 22 0)), none]) (by decide) (Nat.le_of_ble_eq_true rfl) rfl ?_
  intro p e s m args below meth c C hr hlk
  have C : Cx p s m args c cX12_minds 2 "LeanTowerModel" := C
  have k0 : (0 : Int32).toInt = 0 := by decide
  have k1 : (1 : Int32).toInt = 1 := by decide
  have J55 : ∀ (τ : Sg), Inv τ → Fr MS_X12_mindsS AS_X12_mindsS σ τ → (MA τ S I) → ((gV τ 22 0 9).toInt ≤ 23) → MW p l e { frames := 1, cells := 0, slots := 0, locals := 23 } s m args below meth c (MQ below (QP G (PV fun τ => Inv τ ∧ Fr MS_X12_mindsS AS_X12_mindsS σ τ ∧ MA τ S I)) args s 0 0 (aG G)) 2 G 0 0 55 [some (.ref (G.1 22 0)), none] [] τ := by
    intro τ iτ fτ v_MA n1
    have u2 : IV (gV τ 22 0 9) 0 24 := iτ.1 22 0 9
    have b3 : IV (gV τ 22 0 9) 0 23 := ⟨by omega, by omega⟩
    refine m_aload_n C dX12_minds_55 rfl rfl ?_
    refine m_iconst (v := 0) C dX12_minds_56 (by decide) ?_
    refine m_sipush (v := 250) C dX12_minds_57 (by decide) ?_
    refine m_bipush (v := 50) C dX12_minds_60 (by decide) ?_
    refine m_aload_n C dX12_minds_62 rfl rfl ?_
    refine g_22_9 C q4_125 dX12_minds_63 ?_
    refine m_eqs (w := (gV τ 22 0 9)) rfl ?_
    refine m_imul C dX12_minds_66 ?_
    refine m_topi (fun x4 ex4 => ?_)
    have tx4 : x4.toInt = 50 * (gV τ 22 0 9).toInt := by rw [ex4, ti_mulv kc_50 b3 (by decide), kt_50]
    have b5 : IV x4 0 1150 := by rw [ex4]; exact iv_mul kc_50 b3 (by decide)
    refine m_iadd C dX12_minds_67 ?_
    refine m_topi (fun x6 ex6 => ?_)
    have tx6 : x6.toInt = 250 + x4.toInt := by rw [ex6, ti_addv kc_250 b5 (by decide), kt_250]
    have b7 : IV x6 250 1400 := by rw [ex6]; exact iv_add kc_250 b5 (by decide)
    have q8 := kt_0
    refine m_callV (n := 2) (ci := 11) (st := []) C (c_X12_copyAll l G τ (0) (x6) iτ (iv_wk kc_0 (by decide)) (iv_wk b7 (by decide)) (by omega) (by omega) (by omega) (Or.inl (by omega))) (by decide) (by decide) rfl rfl rfl q5_38 q5_35 q5_37 q0_35 q1_7 (by decide +kernel) rfl (by decide) (by decide) rfl (Nat.le_of_ble_eq_true rfl) dX12_minds_68 ?_
    rintro _ τ9 ⟨rfl, i10, f11, h15⟩
    have g14 : Fr MS_X12_mindsS AS_X12_mindsS σ τ9 := Fr.call (fτ) f11 (by decide)
    have v16 := v_MA.ring h15 (by rw [kn_0]; exact v_MA.1) (show x6.toInt.toNat = 250 + 50 * (gV τ 22 0 9).toInt.toNat by omega)
    have q17 : (gV τ9 22 0 9).toInt = (gV τ 22 0 9).toInt := congrArg Int32.toInt (show (gV τ9 22 0 9) = (gV τ 22 0 9) from (show gV τ9 22 0 9 = (gV τ 22 0 9) from (f11.1 22 0 (9) (by decide) (by decide)).trans rfl))
    show MW p l e _ s m args below meth c _ 2 G 0 0 71 [some (.ref (G.1 22 0)), none] [] τ9
    refine m_aload_n C dX12_minds_71 rfl rfl ?_
    refine m_dup C dX12_minds_72 rfl ?_
    refine g_22_9 C q4_125 dX12_minds_73 ?_
    refine m_eqs (w := (gV τ 22 0 9)) (show gV τ9 22 0 9 = (gV τ 22 0 9) from (f11.1 22 0 (9) (by decide) (by decide)).trans rfl) ?_
    refine m_iconst (v := 1) C dX12_minds_76 (by decide) ?_
    refine m_iadd C dX12_minds_77 ?_
    refine m_topi (fun x18 ex18 => ?_)
    have tx18 : x18.toInt = (gV τ 22 0 9).toInt + 1 := by rw [ex18, ti_addv b3 kc_1 (by decide), kt_1]
    have b19 : IV x18 1 24 := by rw [ex18]; exact iv_add b3 kc_1 (by decide)
    refine p_22_9 C q4_125 dX12_minds_78 ?_
    refine m_tops (fun τ20 eτ20 => ?_)
    have i21 : Inv τ20 := eτ20 ▸ Inv.put i10 (by decide) (iv_wk b19 (by decide))
    have f22 : Fr MS_X12_mindsS AS_X12_mindsS σ τ20 := eτ20 ▸ Fr.put (g14) (Or.inl (by decide))
    have v23 := v16.1.more v16.2 (by omega) eτ20 (by omega)
    have q24 : (gV τ20 22 0 9).toInt = x18.toInt := congrArg Int32.toInt (show (gV τ20 22 0 9) = x18 from (show gV τ20 22 0 9 = x18 from gV_put eτ20 (gV_self _ _ _ _ _)))
    exact m_vret C hr hlk (by decide) (by decide) dX12_minds_81 ⟨rfl, i21, f22, v23⟩
  have J11 : ∀ (n : Nat) (τ : Sg) (y1 : Int32), Inv τ → Fr MS_X12_mindsS AS_X12_mindsS σ τ → IV y1 1 24 → (MA τ S I) → ((gV τ 22 0 9).toInt = 24) → (24 - y1.toInt).toNat < n → MW p l e { frames := 1, cells := 0, slots := 0, locals := 23 } s m args below meth c (MQ below (QP G (PV fun τ => Inv τ ∧ Fr MS_X12_mindsS AS_X12_mindsS σ τ ∧ MA τ S I)) args s 0 0 (aG G)) 2 G 0 0 11 [some (.ref (G.1 22 0)), some (.int y1)] [] τ := by
    intro n
    induction n with
    | zero => intro τ y1 iτ fτ b_y1 v_MA n25 hm; exact absurd hm (Nat.not_lt_zero _)
    | succ n ih11 =>
      intro τ y1 iτ fτ b_y1 v_MA n25 hm11
      have u26 : IV (gV τ 22 0 9) 0 24 := iτ.1 22 0 9
      have b27 : IV (gV τ 22 0 9) 24 24 := ⟨by omega, by omega⟩
      refine m_iload_n C dX12_minds_11 rfl rfl ?_
      refine m_bipush (v := 24) C dX12_minds_12 (by decide) ?_
      refine m_icmp_ge (tgt := 45) C dX12_minds_14 (by decide) (fun c28 => ?_) (fun c28 => ?_)
      · have f29 : 24 ≤ y1.toInt := by
          have q : _ := c28
          simp only [ti_nle, ti_nlt, ti_le, ti_lt, ti_eq, ti_ne, Classical.not_not, kt_24] at q
          omega
        have b30 : IV y1 24 24 := ⟨by have q1 := kc_24; have q2 := b_y1; omega, by have q1 := kc_24; have q2 := b_y1; omega⟩
        refine m_aload_n C dX12_minds_45 rfl rfl ?_
        refine m_dup C dX12_minds_46 rfl ?_
        refine g_22_9 C q4_125 dX12_minds_47 ?_
        refine m_eqs (w := (gV τ 22 0 9)) rfl ?_
        refine m_iconst (v := 1) C dX12_minds_50 (by decide) ?_
        refine m_isub C dX12_minds_51 ?_
        refine m_topi (fun x31 ex31 => ?_)
        have tx31 : x31.toInt = (gV τ 22 0 9).toInt - 1 := by rw [ex31, ti_subv b27 kc_1 (by decide), kt_1]
        have b32 : IV x31 23 23 := by rw [ex31]; exact iv_sub b27 kc_1 (by decide)
        refine p_22_9 C q4_125 dX12_minds_52 ?_
        refine m_tops (fun τ33 eτ33 => ?_)
        have i34 : Inv τ33 := eτ33 ▸ Inv.put iτ (by decide) (iv_wk b32 (by decide))
        have f35 : Fr MS_X12_mindsS AS_X12_mindsS σ τ33 := eτ33 ▸ Fr.put (fτ) (Or.inl (by decide))
        have v36 := v_MA.less eτ33 (by omega)
        refine m_sub (L1 := [some (.ref (G.1 22 0)), none]) ⟨rfl, trivial⟩ ?_
        have q37 : (gV τ33 22 0 9).toInt = x31.toInt := congrArg Int32.toInt (show (gV τ33 22 0 9) = x31 from (show gV τ33 22 0 9 = x31 from gV_put eτ33 (gV_self _ _ _ _ _)))
        exact J55 τ33 i34 f35 v36.1 (by omega)
      · have f38 : y1.toInt < 24 := by
          have q : _ := c28
          simp only [ti_nle, ti_nlt, ti_le, ti_lt, ti_eq, ti_ne, Classical.not_not, kt_24] at q
          omega
        have b39 : IV y1 1 23 := ⟨by have q1 := b_y1; have q2 := kc_24; omega, by have q1 := b_y1; have q2 := kc_24; omega⟩
        refine m_aload_n C dX12_minds_17 rfl rfl ?_
        refine m_sipush (v := 250) C dX12_minds_18 (by decide) ?_
        refine m_bipush (v := 50) C dX12_minds_21 (by decide) ?_
        refine m_iload_n C dX12_minds_23 rfl rfl ?_
        refine m_imul C dX12_minds_24 ?_
        refine m_topi (fun x40 ex40 => ?_)
        have tx40 : x40.toInt = 50 * y1.toInt := by rw [ex40, ti_mulv kc_50 b39 (by decide), kt_50]
        have b41 : IV x40 0 1150 := by rw [ex40]; exact iv_mul kc_50 b39 (by decide)
        refine m_iadd C dX12_minds_25 ?_
        refine m_topi (fun x42 ex42 => ?_)
        have tx42 : x42.toInt = 250 + x40.toInt := by rw [ex42, ti_addv kc_250 b41 (by decide), kt_250]
        have b43 : IV x42 250 1400 := by rw [ex42]; exact iv_add kc_250 b41 (by decide)
        refine m_sipush (v := 250) C dX12_minds_26 (by decide) ?_
        refine m_bipush (v := 50) C dX12_minds_29 (by decide) ?_
        refine m_iload_n C dX12_minds_31 rfl rfl ?_
        refine m_iconst (v := 1) C dX12_minds_32 (by decide) ?_
        refine m_isub C dX12_minds_33 ?_
        refine m_topi (fun x44 ex44 => ?_)
        have tx44 : x44.toInt = y1.toInt - 1 := by rw [ex44, ti_subv b39 kc_1 (by decide), kt_1]
        have b45 : IV x44 0 22 := by rw [ex44]; exact iv_sub b39 kc_1 (by decide)
        refine m_imul C dX12_minds_34 ?_
        refine m_topi (fun x46 ex46 => ?_)
        have tx46 : x46.toInt = 50 * x44.toInt := by rw [ex46, ti_mulv kc_50 b45 (by decide), kt_50]
        have b47 : IV x46 0 1100 := by rw [ex46]; exact iv_mul kc_50 b45 (by decide)
        refine m_iadd C dX12_minds_35 ?_
        refine m_topi (fun x48 ex48 => ?_)
        have tx48 : x48.toInt = 250 + x46.toInt := by rw [ex48, ti_addv kc_250 b47 (by decide), kt_250]
        have b49 : IV x48 250 1350 := by rw [ex48]; exact iv_add kc_250 b47 (by decide)
        refine m_callV (n := 2) (ci := 11) (st := []) C (c_X12_copyAll l G τ (x42) (x48) iτ (iv_wk b43 (by decide)) (iv_wk b49 (by decide)) (by omega) (by omega) (by omega) (Or.inl (by omega))) (by decide) (by decide) rfl rfl rfl q5_38 q5_35 q5_37 q0_35 q1_7 (by decide +kernel) rfl (by decide) (by decide) rfl (Nat.le_of_ble_eq_true rfl) dX12_minds_36 ?_
        rintro _ τ50 ⟨rfl, i51, f52, h56⟩
        have g55 : Fr MS_X12_mindsS AS_X12_mindsS σ τ50 := Fr.call (fτ) f52 (by decide)
        have v57 := v_MA.ring h56 (by rw [show x42.toInt.toNat = 250 + 50 * y1.toInt.toNat by omega]; exact v_MA.2.1 _ (by omega)) (show x48.toInt.toNat = 250 + 50 * (y1.toInt.toNat - 1) by omega)
        have q58 : (gV τ50 22 0 9).toInt = (gV τ 22 0 9).toInt := congrArg Int32.toInt (show (gV τ50 22 0 9) = (gV τ 22 0 9) from (show gV τ50 22 0 9 = (gV τ 22 0 9) from (f52.1 22 0 (9) (by decide) (by decide)).trans rfl))
        show MW p l e _ s m args below meth c _ 2 G 0 0 39 [some (.ref (G.1 22 0)), some (.int y1)] [] τ50
        obtain ⟨x59, ex59⟩ : ∃ y : Int32, y = y1 + 1 := ⟨_, rfl⟩
        have tx59 : x59.toInt = y1.toInt + 1 := by rw [ex59, ti_addv b39 kc_1 (by decide), kt_1]
        have b60 : IV x59 2 24 := by rw [ex59]; exact iv_add b39 kc_1 (by decide)
        refine m_iinc (v := x59) (L1 := [some (.ref (G.1 22 0)), some (.int x59)]) C dX12_minds_39 rfl (by rw [ex59]; rfl) (by decide) rfl rfl ?_
        refine m_goto (tgt := 11) C dX12_minds_42 (by decide) ?_
        exact ih11 τ50 x59 i51 g55 (iv_wk b60 (by decide)) v57.1 (by omega) (by have q := hm11; omega)
  have u61 : IV (gV σ 22 0 9) 0 24 := hI.1 22 0 9
  refine m_aload_n C dX12_minds_0 rfl rfl ?_
  refine g_22_9 C q4_125 dX12_minds_1 ?_
  refine m_eqs (w := (gV σ 22 0 9)) rfl ?_
  refine m_bipush (v := 24) C dX12_minds_4 (by decide) ?_
  refine m_icmp_ne (tgt := 55) C dX12_minds_6 (by decide) (fun c62 => ?_) (fun c62 => ?_)
  · have f63 : (gV σ 22 0 9).toInt ≠ 24 := by
      have q : _ := c62
      simp only [ti_nle, ti_nlt, ti_le, ti_lt, ti_eq, ti_ne, Classical.not_not, kt_24] at q
      omega
    have b64 : IV (gV σ 22 0 9) 0 23 := ⟨by have q1 := u61; have q2 := kc_24; omega, by have q1 := u61; have q2 := kc_24; omega⟩
    exact J55 σ hI Fr.rf hMA (by omega)
  · have f65 : (gV σ 22 0 9).toInt = 24 := by
      have q : _ := c62
      simp only [ti_nle, ti_nlt, ti_le, ti_lt, ti_eq, ti_ne, Classical.not_not, kt_24] at q
      omega
    have b66 : IV (gV σ 22 0 9) 24 24 := ⟨by have q1 := u61; have q2 := kc_24; omega, by have q1 := u61; have q2 := kc_24; omega⟩
    refine m_iconst (v := 1) C dX12_minds_9 (by decide) ?_
    refine m_istore_n (L1 := [some (.ref (G.1 22 0)), some (.int 1)]) C dX12_minds_10 rfl (by decide) rfl rfl ?_
    exact J11 ((24 - (1 : Int32).toInt).toNat + 1) σ 1 hI Fr.rf (iv_wk kc_1 (by decide)) hMA (by omega) (Nat.lt_succ_self _)

abbrev MS_X12_goS : List (Nat × Nat) := [(22, 9)]
abbrev AS_X12_goS : List Nat := [23]
set_option maxHeartbeats 4000000 in
set_option maxRecDepth 100000 in
theorem c_X12_goS (l : Launch) (G : Gt) (σ : Sg) (S : Stt) (I : Nat → Stt) (a1 : Int32) (a2 : Int32) (hI : Inv σ) (hMA : MA σ S I) : Mc l G yX12_go cX12_go 4 (some .int) 2 46 0 0 [.ref (G.1 22 0), .int a1, .int a2] σ (PI fun r τ => Inv τ ∧ Fr MS_X12_goS AS_X12_goS σ τ ∧ IV r (-2147483648) 2147483647 ∧ MA τ S I) := by
  refine Mc.of (L0 := [some (.ref (G.1 22 0)), some (.int a1), some (.int a2), none]) (by decide) (Nat.le_of_ble_eq_true rfl) rfl ?_
  intro p e s m args below meth c C hr hlk
  have C : Cx p s m args c cX12_go 4 "LeanTowerModel" := C
  have k0 : (0 : Int32).toInt = 0 := by decide
  have k1 : (1 : Int32).toInt = 1 := by decide
  refine m_aload_n C dX12_go_0 rfl rfl ?_
  refine m_iload_n C dX12_go_1 rfl rfl ?_
  refine m_callV (n := 1) (ci := 11) (st := []) C (c_X12_isOne l G σ (a1) hI ) (by decide) (by decide) rfl rfl rfl q5_50 q5_47 q5_49 q0_36 q1_7 (by decide +kernel) rfl (by decide) (by decide) rfl (Nat.le_of_ble_eq_true rfl) dX12_go_2 ?_
  rintro _ τ1 ⟨x4, rfl, i2, f3, b5, h7⟩
  have g6 : Fr MS_X12_goS AS_X12_goS σ τ1 := Fr.call (Fr.rf) f3 (by decide)
  have v8 : MA τ1 S I := hMA.fr hI f3 (by decide) (by decide)
  show MW p l e _ s m args below meth c _ 4 G 0 0 5 [some (.ref (G.1 22 0)), some (.int a1), some (.int a2), none] [.int x4] τ1
  refine m_if_eq (tgt := 20) C dX12_go_5 (by decide) (fun c9 => ?_) (fun c9 => ?_)
  · have f10 : x4.toInt = 0 := by
      have q : _ := c9
      simp only [ti_nle, ti_nlt, ti_le, ti_lt, ti_eq, ti_ne, Classical.not_not, kt_0] at q
      omega
    have b11 : IV x4 0 0 := ⟨by have q1 := b5; have q2 := kc_0; omega, by have q1 := b5; have q2 := kc_0; omega⟩
    refine m_ldc (v := (-1000001)) C dX12_go_20 q4_192 ?_
    exact m_iret C hr hlk (by decide) (by decide) dX12_go_22 ⟨_, rfl, i2, g6, (iv_wk kc_m1000001 (by decide)), v8⟩
  · have f12 : x4.toInt ≠ 0 := by
      have q : _ := c9
      simp only [ti_nle, ti_nlt, ti_le, ti_lt, ti_eq, ti_ne, Classical.not_not, kt_0] at q
      omega
    have b13 : IV x4 1 1 := ⟨by have q1 := b5; have q2 := kc_0; omega, by have q1 := b5; have q2 := kc_0; omega⟩
    have b14 : IV a1 0 6 := ⟨by have q1 := (iv_any a1); omega, by have q1 := (iv_any a1); omega⟩
    refine m_iload_n C dX12_go_8 rfl rfl ?_
    refine m_i2l C dX12_go_9 ?_
    refine m_ldc2 (v := (-1)) C dX12_go_10 q4_236 ?_
    refine m_lconst (v := 1) C dX12_go_13 (by decide) ?_
    refine m_callS (n := 3) (st := []) C (c_X12_in l G τ1 ((a2 : Int32).toInt64) ((-1)) (1) i2 ) q4_190 q4_188 q4_189 q1_7 (by decide +kernel) rfl (by decide) (by decide) rfl (Nat.le_of_ble_eq_true rfl) dX12_go_14 ?_
    rintro _ τ15 ⟨x18, rfl, i16, f17, b19, h21⟩
    have g20 : Fr MS_X12_goS AS_X12_goS σ τ15 := Fr.call (g6) f17 (by decide)
    have v22 : MA τ15 S I := v8.fr i2 f17 (by decide) (by decide)
    have f23 := tl_i a2
    have f24 := kl_m1
    have f25 := kl_1
    rcases h21 with ⟨h21_0, h21_1, h21_2⟩ | ⟨h21_0, h21_1⟩
    · skip
      have b26 : IV x18 1 1 := ⟨by omega, by omega⟩
      show MW p l e _ s m args below meth c _ 4 G 0 0 17 [some (.ref (G.1 22 0)), some (.int a1), some (.int a2), none] [.int x18] τ15
      refine m_if_ne (tgt := 23) C dX12_go_17 (by decide) (fun c27 => ?_) (fun c27 => ?_)
      · have f28 : x18.toInt ≠ 0 := by
          have q : _ := c27
          simp only [ti_nle, ti_nlt, ti_le, ti_lt, ti_eq, ti_ne, Classical.not_not, kt_0] at q
          omega
        have b29 : IV a2 (-1) 1 := ⟨by have q1 := (iv_any a2); omega, by have q1 := (iv_any a2); omega⟩
        refine m_aload_n C dX12_go_23 rfl rfl ?_
        refine g_22_0 C q4_116 dX12_go_24 ?_
        refine m_bipush (v := 31) C dX12_go_27 (by decide) ?_
        refine m_iload_n C dX12_go_29 rfl rfl ?_
        refine m_iadd C dX12_go_30 ?_
        refine m_topi (fun x30 ex30 => ?_)
        have tx30 : x30.toInt = 31 + a1.toInt := by rw [ex30, ti_addv kc_31 b14 (by decide), kt_31]
        have b31 : IV x30 31 37 := by rw [ex30]; exact iv_add kc_31 b14 (by decide)
        refine al_23 C b31 (by decide) rfl dX12_go_31 ?_
        refine m_topi (fun x32 ex32 => ?_)
        refine m_istore_n (L1 := [some (.ref (G.1 22 0)), some (.int a1), some (.int a2), some (.int x32)]) C dX12_go_32 rfl (by decide) rfl rfl ?_
        refine m_aload_n C dX12_go_33 rfl rfl ?_
        refine m_callV (n := 0) (ci := 11) (st := []) C (c_X12_mindsS l G τ15 S I  i16 v22) (by decide) (by decide) rfl rfl rfl q5_54 q5_51 q5_53 q0_37 q1_7 (by decide +kernel) rfl (by decide) (by decide) rfl (Nat.le_of_ble_eq_true rfl) dX12_go_34 ?_
        rintro _ τ33 ⟨rfl, i34, f35, h39⟩
        have g38 : Fr MS_X12_goS AS_X12_goS σ τ33 := Fr.call (g20) f35 (by decide)
        have v40 : MA τ33 S I := h39
        show MW p l e _ s m args below meth c _ 4 G 0 0 37 [some (.ref (G.1 22 0)), some (.int a1), some (.int a2), some (.int x32)] [] τ33
        refine m_aload_n C dX12_go_37 rfl rfl ?_
        refine g_22_0 C q4_116 dX12_go_38 ?_
        refine m_bipush (v := 31) C dX12_go_41 (by decide) ?_
        refine m_iload_n C dX12_go_43 rfl rfl ?_
        refine m_iadd C dX12_go_44 ?_
        refine m_topi (fun x41 ex41 => ?_)
        have tx41 : x41.toInt = 31 + a1.toInt := by rw [ex41, ti_addv kc_31 b14 (by decide), kt_31]
        have b42 : IV x41 31 37 := by rw [ex41]; exact iv_add kc_31 b14 (by decide)
        refine m_iload_n C dX12_go_45 rfl rfl ?_
        refine as_23 C b42 (by decide) rfl dX12_go_46 ?_
        refine m_tops (fun τ43 eτ43 => ?_)
        have i44 : Inv τ43 := eτ43 ▸ Inv.putW i34 (by omega)
        have f45 : Fr MS_X12_goS AS_X12_goS σ τ43 := eτ43 ▸ Fr.put (g38) (Or.inr (by decide))
        have v46 : MA τ43 S I := v40.put23 i34 eτ43 (by omega)
        refine m_iload_n C dX12_go_47 rfl rfl ?_
        exact m_iret C hr hlk (by decide) (by decide) dX12_go_48 ⟨_, rfl, i44, f45, (iv_any x32), v46⟩
      · exfalso
        have q : _ := c27
        simp only [ti_nle, ti_nlt, ti_le, ti_lt, ti_eq, ti_ne, Classical.not_not, kt_0] at q
        have q1 := b26; have q2 := kc_0; omega
    · skip
      have b48 : IV x18 0 0 := ⟨by omega, by omega⟩
      show MW p l e _ s m args below meth c _ 4 G 0 0 17 [some (.ref (G.1 22 0)), some (.int a1), some (.int a2), none] [.int x18] τ15
      refine m_if_ne (tgt := 23) C dX12_go_17 (by decide) (fun c49 => ?_) (fun c49 => ?_)
      · exfalso
        have q : _ := c49
        simp only [ti_nle, ti_nlt, ti_le, ti_lt, ti_eq, ti_ne, Classical.not_not, kt_0] at q
        have q1 := b48; have q2 := kc_0; omega
      · have f51 : x18.toInt = 0 := by
          have q : _ := c49
          simp only [ti_nle, ti_nlt, ti_le, ti_lt, ti_eq, ti_ne, Classical.not_not, kt_0] at q
          omega
        refine m_ldc (v := (-1000001)) C dX12_go_20 q4_192 ?_
        exact m_iret C hr hlk (by decide) (by decide) dX12_go_22 ⟨_, rfl, i16, g20, (iv_wk kc_m1000001 (by decide)), v22⟩

abbrev MS_X12_hangS : List (Nat × Nat) := [(22, 9)]
abbrev AS_X12_hangS : List Nat := [23]
set_option maxHeartbeats 4000000 in
set_option maxRecDepth 100000 in
theorem c_X12_hangS (l : Launch) (G : Gt) (σ : Sg) (S : Stt) (I : Nat → Stt) (a1 : Int32) (a2 : Int32) (hI : Inv σ) (hMA : MA σ S I) : Mc l G yX12_hang cX12_hang 4 (some .int) 2 44 0 0 [.ref (G.1 22 0), .int a1, .int a2] σ (PI fun r τ => Inv τ ∧ Fr MS_X12_hangS AS_X12_hangS σ τ ∧ IV r (-2147483648) 2147483647 ∧ MA τ S I) := by
  refine Mc.of (L0 := [some (.ref (G.1 22 0)), some (.int a1), some (.int a2), none]) (by decide) (Nat.le_of_ble_eq_true rfl) rfl ?_
  intro p e s m args below meth c C hr hlk
  have C : Cx p s m args c cX12_hang 4 "LeanTowerModel" := C
  have k0 : (0 : Int32).toInt = 0 := by decide
  have k1 : (1 : Int32).toInt = 1 := by decide
  refine m_iload_n C dX12_hang_0 rfl rfl ?_
  refine m_i2l C dX12_hang_1 ?_
  refine m_lconst (v := 0) C dX12_hang_2 (by decide) ?_
  refine m_aload_n C dX12_hang_3 rfl rfl ?_
  refine g_22_0 C q4_116 dX12_hang_4 ?_
  refine m_bipush (v := 38) C dX12_hang_7 (by decide) ?_
  refine al_23 C kc_38 (by decide) kn_38 dX12_hang_9 ?_
  refine m_topi (fun x1 ex1 => ?_)
  have b2 : IV x1 0 4 := by rw [ex1]; exact hI.1 23 0 38
  refine m_iconst (v := 1) C dX12_hang_10 (by decide) ?_
  refine m_isub C dX12_hang_11 ?_
  refine m_topi (fun x3 ex3 => ?_)
  have tx3 : x3.toInt = x1.toInt - 1 := by rw [ex3, ti_subv b2 kc_1 (by decide), kt_1]
  have b4 : IV x3 (-1) 3 := by rw [ex3]; exact iv_sub b2 kc_1 (by decide)
  refine m_i2l C dX12_hang_12 ?_
  refine m_callS (n := 3) (st := []) C (c_X12_in l G σ ((a1 : Int32).toInt64) (0) ((x3 : Int32).toInt64) hI ) q4_190 q4_188 q4_189 q1_7 (by decide +kernel) rfl (by decide) (by decide) rfl (Nat.le_of_ble_eq_true rfl) dX12_hang_13 ?_
  rintro _ τ5 ⟨x8, rfl, i6, f7, b9, h11⟩
  have g10 : Fr MS_X12_hangS AS_X12_hangS σ τ5 := Fr.call (Fr.rf) f7 (by decide)
  have v12 : MA τ5 S I := hMA.fr hI f7 (by decide) (by decide)
  have f13 := tl_i a1
  have f14 := kl_0
  have f15 := tl_i x3
  have q16 := b4
  rcases h11 with ⟨h11_0, h11_1, h11_2⟩ | ⟨h11_0, h11_1⟩
  · skip
    have b17 : IV x8 1 1 := ⟨by omega, by omega⟩
    show MW p l e _ s m args below meth c _ 4 G 0 0 16 [some (.ref (G.1 22 0)), some (.int a1), some (.int a2), none] [.int x8] τ5
    refine m_if_eq (tgt := 31) C dX12_hang_16 (by decide) (fun c18 => ?_) (fun c18 => ?_)
    · exfalso
      have q : _ := c18
      simp only [ti_nle, ti_nlt, ti_le, ti_lt, ti_eq, ti_ne, Classical.not_not, kt_0] at q
      have q1 := b17; have q2 := kc_0; omega
    · have f20 : x8.toInt ≠ 0 := by
        have q : _ := c18
        simp only [ti_nle, ti_nlt, ti_le, ti_lt, ti_eq, ti_ne, Classical.not_not, kt_0] at q
        omega
      have b21 : IV a1 0 3 := ⟨by have q1 := (iv_any a1); omega, by have q1 := (iv_any a1); omega⟩
      refine m_iload_n C dX12_hang_19 rfl rfl ?_
      refine m_i2l C dX12_hang_20 ?_
      refine m_lconst (v := 0) C dX12_hang_21 (by decide) ?_
      refine m_ldc2 (v := 3) C dX12_hang_22 q5_59 ?_
      refine m_callS (n := 3) (st := []) C (c_X12_in l G τ5 ((a2 : Int32).toInt64) (0) (3) i6 ) q4_190 q4_188 q4_189 q1_7 (by decide +kernel) rfl (by decide) (by decide) rfl (Nat.le_of_ble_eq_true rfl) dX12_hang_25 ?_
      rintro _ τ22 ⟨x25, rfl, i23, f24, b26, h28⟩
      have g27 : Fr MS_X12_hangS AS_X12_hangS σ τ22 := Fr.call (g10) f24 (by decide)
      have v29 : MA τ22 S I := v12.fr i6 f24 (by decide) (by decide)
      have f30 := tl_i a2
      have f31 := kl_0
      have f32 := kl_3
      rcases h28 with ⟨h28_0, h28_1, h28_2⟩ | ⟨h28_0, h28_1⟩
      · skip
        have b33 : IV x25 1 1 := ⟨by omega, by omega⟩
        show MW p l e _ s m args below meth c _ 4 G 0 0 28 [some (.ref (G.1 22 0)), some (.int a1), some (.int a2), none] [.int x25] τ22
        refine m_if_ne (tgt := 34) C dX12_hang_28 (by decide) (fun c34 => ?_) (fun c34 => ?_)
        · have f35 : x25.toInt ≠ 0 := by
            have q : _ := c34
            simp only [ti_nle, ti_nlt, ti_le, ti_lt, ti_eq, ti_ne, Classical.not_not, kt_0] at q
            omega
          have b36 : IV a2 0 3 := ⟨by have q1 := (iv_any a2); omega, by have q1 := (iv_any a2); omega⟩
          refine m_aload_n C dX12_hang_34 rfl rfl ?_
          refine g_22_0 C q4_116 dX12_hang_35 ?_
          refine m_bipush (v := 43) C dX12_hang_38 (by decide) ?_
          refine m_iload_n C dX12_hang_40 rfl rfl ?_
          refine m_iadd C dX12_hang_41 ?_
          refine m_topi (fun x37 ex37 => ?_)
          have tx37 : x37.toInt = 43 + a1.toInt := by rw [ex37, ti_addv kc_43 b21 (by decide), kt_43]
          have b38 : IV x37 43 46 := by rw [ex37]; exact iv_add kc_43 b21 (by decide)
          refine al_23 C b38 (by decide) rfl dX12_hang_42 ?_
          refine m_topi (fun x39 ex39 => ?_)
          refine m_istore_n (L1 := [some (.ref (G.1 22 0)), some (.int a1), some (.int a2), some (.int x39)]) C dX12_hang_43 rfl (by decide) rfl rfl ?_
          refine m_aload_n C dX12_hang_44 rfl rfl ?_
          refine m_callV (n := 0) (ci := 11) (st := []) C (c_X12_mindsS l G τ22 S I  i23 v29) (by decide) (by decide) rfl rfl rfl q5_54 q5_51 q5_53 q0_37 q1_7 (by decide +kernel) rfl (by decide) (by decide) rfl (Nat.le_of_ble_eq_true rfl) dX12_hang_45 ?_
          rintro _ τ40 ⟨rfl, i41, f42, h46⟩
          have g45 : Fr MS_X12_hangS AS_X12_hangS σ τ40 := Fr.call (g27) f42 (by decide)
          have v47 : MA τ40 S I := h46
          show MW p l e _ s m args below meth c _ 4 G 0 0 48 [some (.ref (G.1 22 0)), some (.int a1), some (.int a2), some (.int x39)] [] τ40
          refine m_aload_n C dX12_hang_48 rfl rfl ?_
          refine g_22_0 C q4_116 dX12_hang_49 ?_
          refine m_bipush (v := 43) C dX12_hang_52 (by decide) ?_
          refine m_iload_n C dX12_hang_54 rfl rfl ?_
          refine m_iadd C dX12_hang_55 ?_
          refine m_topi (fun x48 ex48 => ?_)
          have tx48 : x48.toInt = 43 + a1.toInt := by rw [ex48, ti_addv kc_43 b21 (by decide), kt_43]
          have b49 : IV x48 43 46 := by rw [ex48]; exact iv_add kc_43 b21 (by decide)
          refine m_iload_n C dX12_hang_56 rfl rfl ?_
          refine as_23 C b49 (by decide) rfl dX12_hang_57 ?_
          refine m_tops (fun τ50 eτ50 => ?_)
          have i51 : Inv τ50 := eτ50 ▸ Inv.putW i41 (by omega)
          have f52 : Fr MS_X12_hangS AS_X12_hangS σ τ50 := eτ50 ▸ Fr.put (g45) (Or.inr (by decide))
          have v53 : MA τ50 S I := v47.put23 i41 eτ50 (by omega)
          refine m_iload_n C dX12_hang_58 rfl rfl ?_
          exact m_iret C hr hlk (by decide) (by decide) dX12_hang_59 ⟨_, rfl, i51, f52, (iv_any x39), v53⟩
        · exfalso
          have q : _ := c34
          simp only [ti_nle, ti_nlt, ti_le, ti_lt, ti_eq, ti_ne, Classical.not_not, kt_0] at q
          have q1 := b33; have q2 := kc_0; omega
      · skip
        have b55 : IV x25 0 0 := ⟨by omega, by omega⟩
        show MW p l e _ s m args below meth c _ 4 G 0 0 28 [some (.ref (G.1 22 0)), some (.int a1), some (.int a2), none] [.int x25] τ22
        refine m_if_ne (tgt := 34) C dX12_hang_28 (by decide) (fun c56 => ?_) (fun c56 => ?_)
        · exfalso
          have q : _ := c56
          simp only [ti_nle, ti_nlt, ti_le, ti_lt, ti_eq, ti_ne, Classical.not_not, kt_0] at q
          have q1 := b55; have q2 := kc_0; omega
        · have f58 : x25.toInt = 0 := by
            have q : _ := c56
            simp only [ti_nle, ti_nlt, ti_le, ti_lt, ti_eq, ti_ne, Classical.not_not, kt_0] at q
            omega
          refine m_ldc (v := (-1000001)) C dX12_hang_31 q4_192 ?_
          exact m_iret C hr hlk (by decide) (by decide) dX12_hang_33 ⟨_, rfl, i23, g27, (iv_wk kc_m1000001 (by decide)), v29⟩
  · skip
    have b59 : IV x8 0 0 := ⟨by omega, by omega⟩
    show MW p l e _ s m args below meth c _ 4 G 0 0 16 [some (.ref (G.1 22 0)), some (.int a1), some (.int a2), none] [.int x8] τ5
    refine m_if_eq (tgt := 31) C dX12_hang_16 (by decide) (fun c60 => ?_) (fun c60 => ?_)
    · have f61 : x8.toInt = 0 := by
        have q : _ := c60
        simp only [ti_nle, ti_nlt, ti_le, ti_lt, ti_eq, ti_ne, Classical.not_not, kt_0] at q
        omega
      refine m_ldc (v := (-1000001)) C dX12_hang_31 q4_192 ?_
      exact m_iret C hr hlk (by decide) (by decide) dX12_hang_33 ⟨_, rfl, i6, g10, (iv_wk kc_m1000001 (by decide)), v12⟩
    · exfalso
      have q : _ := c60
      simp only [ti_nle, ti_nlt, ti_le, ti_lt, ti_eq, ti_ne, Classical.not_not, kt_0] at q
      have q1 := b59; have q2 := kc_0; omega

abbrev MS_X12_halvesS : List (Nat × Nat) := [(22, 9)]
abbrev AS_X12_halvesS : List Nat := [23]
set_option maxHeartbeats 4000000 in
set_option maxRecDepth 100000 in
theorem c_X12_halvesS (l : Launch) (G : Gt) (σ : Sg) (S : Stt) (I : Nat → Stt) (a1 : Int32) (hI : Inv σ) (hMA : MA σ S I) : Mc l G yX12_halves cX12_halves 4 (some .int) 3 67 0 0 [.ref (G.1 22 0), .int a1] σ (PI fun r τ => Inv τ ∧ Fr MS_X12_halvesS AS_X12_halvesS σ τ ∧ IV r (-1000003) 64 ∧ MA τ S I) := by
  refine Mc.of (L0 := [some (.ref (G.1 22 0)), some (.int a1), none, none]) (by decide) (Nat.le_of_ble_eq_true rfl) rfl ?_
  intro p e s m args below meth c C hr hlk
  have C : Cx p s m args c cX12_halves 4 "LeanTowerModel" := C
  have k0 : (0 : Int32).toInt = 0 := by decide
  have k1 : (1 : Int32).toInt = 1 := by decide
  have J52 : ∀ (n : Nat) (τ : Sg) (y2 : Int32) (y3 : Int32), Inv τ → Fr MS_X12_halvesS AS_X12_halvesS σ τ → IV a1 1 64 → IV y2 (-1000000) 64 → IV y3 1 65 → (MA τ S I) → (65 - y3.toInt).toNat < n → MW p l e { frames := 3, cells := 0, slots := 0, locals := 67 } s m args below meth c (MQ below (QP G (PI fun r τ => Inv τ ∧ Fr MS_X12_halvesS AS_X12_halvesS σ τ ∧ IV r (-1000003) 64 ∧ MA τ S I)) args s 0 0 (aG G)) 4 G 0 0 52 [some (.ref (G.1 22 0)), some (.int a1), some (.int y2), some (.int y3)] [] τ := by
    intro n
    induction n with
    | zero => intro τ y2 y3 iτ fτ b_a1 b_y2 b_y3 v_MA hm; exact absurd hm (Nat.not_lt_zero _)
    | succ n ih52 =>
      intro τ y2 y3 iτ fτ b_a1 b_y2 b_y3 v_MA hm52
      refine m_iload_n C dX12_halves_52 rfl rfl ?_
      refine m_iload_n C dX12_halves_53 rfl rfl ?_
      refine m_icmp_gt (tgt := 94) C dX12_halves_54 (by decide) (fun c1 => ?_) (fun c1 => ?_)
      · have f2 : a1.toInt < y3.toInt := by
          have q : _ := c1
          simp only [ti_nle, ti_nlt, ti_le, ti_lt, ti_eq, ti_ne, Classical.not_not] at q
          omega
        have b3 : IV y3 2 65 := ⟨by have q1 := b_a1; have q2 := b_y3; omega, by have q1 := b_a1; have q2 := b_y3; omega⟩
        refine m_iload_n C dX12_halves_94 rfl rfl ?_
        exact m_iret C hr hlk (by decide) (by decide) dX12_halves_95 ⟨_, rfl, iτ, fτ, (iv_wk b_y2 (by decide)), v_MA⟩
      · have f4 : y3.toInt ≤ a1.toInt := by
          have q : _ := c1
          simp only [ti_nle, ti_nlt, ti_le, ti_lt, ti_eq, ti_ne, Classical.not_not] at q
          omega
        have b5 : IV y3 1 64 := ⟨by have q1 := b_y3; have q2 := b_a1; omega, by have q1 := b_y3; have q2 := b_a1; omega⟩
        refine m_aload_n C dX12_halves_57 rfl rfl ?_
        refine m_iconst (v := 0) C dX12_halves_58 (by decide) ?_
        have q6 := kt_0
        refine m_callV (n := 1) (ci := 11) (st := []) C (c_X12_halfS l G τ (0) iτ (iv_wk kc_0 (by decide)) (by omega)) (by decide) (by decide) rfl rfl rfl q5_74 q5_71 q5_73 q0_39 q1_7 (by decide +kernel) rfl (by decide) (by decide) rfl (Nat.le_of_ble_eq_true rfl) dX12_halves_59 ?_
        rintro _ τ7 ⟨rfl, i8, f9, h13⟩
        have g12 : Fr MS_X12_halvesS AS_X12_halvesS σ τ7 := Fr.call (fτ) f9 (by decide)
        have v14 : MA τ7 S I := v_MA.sf iτ f9 h13 (by decide) (by decide)
        show MW p l e _ s m args below meth c _ 4 G 0 0 62 [some (.ref (G.1 22 0)), some (.int a1), some (.int y2), some (.int y3)] [] τ7
        refine m_iload_n C dX12_halves_62 rfl rfl ?_
        refine m_ldc (v := (-1000000)) C dX12_halves_63 q5_70 ?_
        refine m_icmp_ne (tgt := 86) C dX12_halves_65 (by decide) (fun c15 => ?_) (fun c15 => ?_)
        · have f16 : y2.toInt ≠ -1000000 := by
            have q : _ := c15
            simp only [ti_nle, ti_nlt, ti_le, ti_lt, ti_eq, ti_ne, Classical.not_not, kt_m1000000] at q
            omega
          have b17 : IV y2 (-999999) 64 := ⟨by have q1 := b_y2; have q2 := kc_m1000000; omega, by have q1 := b_y2; have q2 := kc_m1000000; omega⟩
          refine m_iload_n C dX12_halves_86 rfl rfl ?_
          refine m_istore_n (L1 := [some (.ref (G.1 22 0)), some (.int a1), some (.int y2), some (.int y3)]) C dX12_halves_87 rfl (by decide) rfl rfl ?_
          obtain ⟨x18, ex18⟩ : ∃ y : Int32, y = y3 + 1 := ⟨_, rfl⟩
          have tx18 : x18.toInt = y3.toInt + 1 := by rw [ex18, ti_addv b5 kc_1 (by decide), kt_1]
          have b19 : IV x18 2 65 := by rw [ex18]; exact iv_add b5 kc_1 (by decide)
          refine m_iinc (v := x18) (L1 := [some (.ref (G.1 22 0)), some (.int a1), some (.int y2), some (.int x18)]) C dX12_halves_88 rfl (by rw [ex18]; rfl) (by decide) rfl rfl ?_
          refine m_goto (tgt := 52) C dX12_halves_91 (by decide) ?_
          exact ih52 τ7 y2 x18 i8 g12 b_a1 (iv_wk b17 (by decide)) (iv_wk b19 (by decide)) v14 (by have q := hm52; omega)
        · have f20 : y2.toInt = -1000000 := by
            have q : _ := c15
            simp only [ti_nle, ti_nlt, ti_le, ti_lt, ti_eq, ti_ne, Classical.not_not, kt_m1000000] at q
            omega
          have b21 : IV y2 (-1000000) (-1000000) := ⟨by have q1 := b_y2; have q2 := kc_m1000000; omega, by have q1 := b_y2; have q2 := kc_m1000000; omega⟩
          refine m_aload_n C dX12_halves_68 rfl rfl ?_
          refine m_iconst (v := 0) C dX12_halves_69 (by decide) ?_
          have q22 := kt_0
          refine m_callV (n := 1) (ci := 11) (st := []) C (c_X12_worstOf l G τ7 (0) i8 (iv_wk kc_0 (by decide)) (by omega)) (by decide) (by decide) rfl rfl rfl q5_78 q5_75 q5_77 q0_40 q1_7 (by decide +kernel) rfl (by decide) (by decide) rfl (Nat.le_of_ble_eq_true rfl) dX12_halves_70 ?_
          rintro _ τ23 ⟨x26, rfl, i24, f25, b27⟩
          have g28 : Fr MS_X12_halvesS AS_X12_halvesS σ τ23 := Fr.call (g12) f25 (by decide)
          have v30 : MA τ23 S I := v14.fr i8 f25 (by decide) (by decide)
          show MW p l e _ s m args below meth c _ 4 G 0 0 73 [some (.ref (G.1 22 0)), some (.int a1), some (.int y2), some (.int y3)] [.int x26] τ23
          refine m_aload_n C dX12_halves_73 rfl rfl ?_
          refine g_22_0 C q4_116 dX12_halves_74 ?_
          refine m_iconst (v := 1) C dX12_halves_77 (by decide) ?_
          refine al_23 C kc_1 (by decide) kn_1 dX12_halves_78 ?_
          refine m_topi (fun x31 ex31 => ?_)
          refine m_icmp_le (tgt := 86) C dX12_halves_79 (by decide) (fun c32 => ?_) (fun c32 => ?_)
          · have f33 : x26.toInt ≤ x31.toInt := by
              have q : _ := c32
              simp only [ti_nle, ti_nlt, ti_le, ti_lt, ti_eq, ti_ne, Classical.not_not] at q
              omega
            refine m_iload_n C dX12_halves_86 rfl rfl ?_
            refine m_istore_n (L1 := [some (.ref (G.1 22 0)), some (.int a1), some (.int y2), some (.int y3)]) C dX12_halves_87 rfl (by decide) rfl rfl ?_
            obtain ⟨x34, ex34⟩ : ∃ y : Int32, y = y3 + 1 := ⟨_, rfl⟩
            have tx34 : x34.toInt = y3.toInt + 1 := by rw [ex34, ti_addv b5 kc_1 (by decide), kt_1]
            have b35 : IV x34 2 65 := by rw [ex34]; exact iv_add b5 kc_1 (by decide)
            refine m_iinc (v := x34) (L1 := [some (.ref (G.1 22 0)), some (.int a1), some (.int y2), some (.int x34)]) C dX12_halves_88 rfl (by rw [ex34]; rfl) (by decide) rfl rfl ?_
            refine m_goto (tgt := 52) C dX12_halves_91 (by decide) ?_
            exact ih52 τ23 y2 x34 i24 g28 b_a1 (iv_wk b21 (by decide)) (iv_wk b35 (by decide)) v30 (by have q := hm52; omega)
          · have f36 : x31.toInt < x26.toInt := by
              have q : _ := c32
              simp only [ti_nle, ti_nlt, ti_le, ti_lt, ti_eq, ti_ne, Classical.not_not] at q
              omega
            have b37 : IV x31 (-2147483648) 2147483646 := ⟨by have q1 := (iv_any x31); have q2 := b27; omega, by have q1 := (iv_any x31); have q2 := b27; omega⟩
            have b38 : IV x26 (-2147483647) 2147483647 := ⟨by have q1 := (iv_any x31); have q2 := b27; omega, by have q1 := (iv_any x31); have q2 := b27; omega⟩
            refine m_iload_n C dX12_halves_82 rfl rfl ?_
            refine m_goto (tgt := 87) C dX12_halves_83 (by decide) ?_
            refine m_istore_n (L1 := [some (.ref (G.1 22 0)), some (.int a1), some (.int y3), some (.int y3)]) C dX12_halves_87 rfl (by decide) rfl rfl ?_
            obtain ⟨x39, ex39⟩ : ∃ y : Int32, y = y3 + 1 := ⟨_, rfl⟩
            have tx39 : x39.toInt = y3.toInt + 1 := by rw [ex39, ti_addv b5 kc_1 (by decide), kt_1]
            have b40 : IV x39 2 65 := by rw [ex39]; exact iv_add b5 kc_1 (by decide)
            refine m_iinc (v := x39) (L1 := [some (.ref (G.1 22 0)), some (.int a1), some (.int y3), some (.int x39)]) C dX12_halves_88 rfl (by rw [ex39]; rfl) (by decide) rfl rfl ?_
            refine m_goto (tgt := 52) C dX12_halves_91 (by decide) ?_
            exact ih52 τ23 y3 x39 i24 g28 b_a1 (iv_wk b5 (by decide)) (iv_wk b40 (by decide)) v30 (by have q := hm52; omega)
  refine m_aload_n C dX12_halves_0 rfl rfl ?_
  refine m_callV (n := 0) (ci := 11) (st := []) C (c_X12_isTower l G σ  hI ) (by decide) (by decide) rfl rfl rfl q5_67 q5_64 q5_66 q0_38 q1_7 (by decide +kernel) rfl (by decide) (by decide) rfl (Nat.le_of_ble_eq_true rfl) dX12_halves_1 ?_
  rintro _ τ41 ⟨x44, rfl, i42, f43, b45⟩
  have g46 : Fr MS_X12_halvesS AS_X12_halvesS σ τ41 := Fr.call (Fr.rf) f43 (by decide)
  have v48 : MA τ41 S I := hMA.fr hI f43 (by decide) (by decide)
  show MW p l e _ s m args below meth c _ 4 G 0 0 4 [some (.ref (G.1 22 0)), some (.int a1), none, none] [.int x44] τ41
  refine m_if_ne (tgt := 10) C dX12_halves_4 (by decide) (fun c49 => ?_) (fun c49 => ?_)
  · have f50 : x44.toInt ≠ 0 := by
      have q : _ := c49
      simp only [ti_nle, ti_nlt, ti_le, ti_lt, ti_eq, ti_ne, Classical.not_not, kt_0] at q
      omega
    have b51 : IV x44 1 1 := ⟨by have q1 := b45; have q2 := kc_0; omega, by have q1 := b45; have q2 := kc_0; omega⟩
    refine m_iload_n C dX12_halves_10 rfl rfl ?_
    refine m_i2l C dX12_halves_11 ?_
    refine m_lconst (v := 1) C dX12_halves_12 (by decide) ?_
    refine m_ldc2 (v := 64) C dX12_halves_13 q5_69 ?_
    refine m_callS (n := 3) (st := []) C (c_X12_in l G τ41 ((a1 : Int32).toInt64) (1) (64) i42 ) q4_190 q4_188 q4_189 q1_7 (by decide +kernel) rfl (by decide) (by decide) rfl (Nat.le_of_ble_eq_true rfl) dX12_halves_16 ?_
    rintro _ τ52 ⟨x55, rfl, i53, f54, b56, h58⟩
    have g57 : Fr MS_X12_halvesS AS_X12_halvesS σ τ52 := Fr.call (g46) f54 (by decide)
    have v59 : MA τ52 S I := v48.fr i42 f54 (by decide) (by decide)
    have f60 := tl_i a1
    have f61 := kl_1
    have f62 := kl_64
    rcases h58 with ⟨h58_0, h58_1, h58_2⟩ | ⟨h58_0, h58_1⟩
    · skip
      have b63 : IV x55 1 1 := ⟨by omega, by omega⟩
      show MW p l e _ s m args below meth c _ 4 G 0 0 19 [some (.ref (G.1 22 0)), some (.int a1), none, none] [.int x55] τ52
      refine m_if_ne (tgt := 25) C dX12_halves_19 (by decide) (fun c64 => ?_) (fun c64 => ?_)
      · have f65 : x55.toInt ≠ 0 := by
          have q : _ := c64
          simp only [ti_nle, ti_nlt, ti_le, ti_lt, ti_eq, ti_ne, Classical.not_not, kt_0] at q
          omega
        have b66 : IV a1 1 64 := ⟨by have q1 := (iv_any a1); omega, by have q1 := (iv_any a1); omega⟩
        refine m_aload_n C dX12_halves_25 rfl rfl ?_
        refine g_22_0 C q4_116 dX12_halves_26 ?_
        refine m_bipush (v := 47) C dX12_halves_29 (by decide) ?_
        refine al_23 C kc_47 (by decide) kn_47 dX12_halves_31 ?_
        refine m_topi (fun x67 ex67 => ?_)
        refine m_iload_n C dX12_halves_32 rfl rfl ?_
        refine m_iadd C dX12_halves_33 ?_
        refine m_topi (fun x68 ex68 => ?_)
        refine m_sipush (v := 9999) C dX12_halves_34 (by decide) ?_
        refine m_icmp_le (tgt := 43) C dX12_halves_37 (by decide) (fun c69 => ?_) (fun c69 => ?_)
        · have f70 : x68.toInt ≤ 9999 := by
            have q : _ := c69
            simp only [ti_nle, ti_nlt, ti_le, ti_lt, ti_eq, ti_ne, Classical.not_not, kt_9999] at q
            omega
          have b71 : IV x68 (-2147483648) 9999 := ⟨by have q1 := (iv_any x68); have q2 := kc_9999; omega, by have q1 := (iv_any x68); have q2 := kc_9999; omega⟩
          refine m_aload_n C dX12_halves_43 rfl rfl ?_
          refine m_callV (n := 0) (ci := 11) (st := []) C (c_X12_mindsS l G τ52 S I  i53 v59) (by decide) (by decide) rfl rfl rfl q5_54 q5_51 q5_53 q0_37 q1_7 (by decide +kernel) rfl (by decide) (by decide) rfl (Nat.le_of_ble_eq_true rfl) dX12_halves_44 ?_
          rintro _ τ72 ⟨rfl, i73, f74, h78⟩
          have g77 : Fr MS_X12_halvesS AS_X12_halvesS σ τ72 := Fr.call (g57) f74 (by decide)
          have v79 : MA τ72 S I := h78
          show MW p l e _ s m args below meth c _ 4 G 0 0 47 [some (.ref (G.1 22 0)), some (.int a1), none, none] [] τ72
          refine m_ldc (v := (-1000000)) C dX12_halves_47 q5_70 ?_
          refine m_istore_n (L1 := [some (.ref (G.1 22 0)), some (.int a1), some (.int (-1000000)), none]) C dX12_halves_49 rfl (by decide) rfl rfl ?_
          refine m_iconst (v := 1) C dX12_halves_50 (by decide) ?_
          refine m_istore_n (L1 := [some (.ref (G.1 22 0)), some (.int a1), some (.int (-1000000)), some (.int 1)]) C dX12_halves_51 rfl (by decide) rfl rfl ?_
          exact J52 ((65 - (1 : Int32).toInt).toNat + 1) τ72 (-1000000) 1 i73 g77 b66 (iv_wk kc_m1000000 (by decide)) (iv_wk kc_1 (by decide)) v79 (Nat.lt_succ_self _)
        · have f80 : 9999 < x68.toInt := by
            have q : _ := c69
            simp only [ti_nle, ti_nlt, ti_le, ti_lt, ti_eq, ti_ne, Classical.not_not, kt_9999] at q
            omega
          have b81 : IV x68 10000 2147483647 := ⟨by have q1 := kc_9999; have q2 := (iv_any x68); omega, by have q1 := kc_9999; have q2 := (iv_any x68); omega⟩
          refine m_ldc (v := (-1000003)) C dX12_halves_40 q4_222 ?_
          exact m_iret C hr hlk (by decide) (by decide) dX12_halves_42 ⟨_, rfl, i53, g57, (iv_wk kc_m1000003 (by decide)), v59⟩
      · exfalso
        have q : _ := c64
        simp only [ti_nle, ti_nlt, ti_le, ti_lt, ti_eq, ti_ne, Classical.not_not, kt_0] at q
        have q1 := b63; have q2 := kc_0; omega
    · skip
      have b83 : IV x55 0 0 := ⟨by omega, by omega⟩
      show MW p l e _ s m args below meth c _ 4 G 0 0 19 [some (.ref (G.1 22 0)), some (.int a1), none, none] [.int x55] τ52
      refine m_if_ne (tgt := 25) C dX12_halves_19 (by decide) (fun c84 => ?_) (fun c84 => ?_)
      · exfalso
        have q : _ := c84
        simp only [ti_nle, ti_nlt, ti_le, ti_lt, ti_eq, ti_ne, Classical.not_not, kt_0] at q
        have q1 := b83; have q2 := kc_0; omega
      · have f86 : x55.toInt = 0 := by
          have q : _ := c84
          simp only [ti_nle, ti_nlt, ti_le, ti_lt, ti_eq, ti_ne, Classical.not_not, kt_0] at q
          omega
        refine m_ldc (v := (-1000001)) C dX12_halves_22 q4_192 ?_
        exact m_iret C hr hlk (by decide) (by decide) dX12_halves_24 ⟨_, rfl, i53, g57, (iv_wk kc_m1000001 (by decide)), v59⟩
  · have f87 : x44.toInt = 0 := by
      have q : _ := c49
      simp only [ti_nle, ti_nlt, ti_le, ti_lt, ti_eq, ti_ne, Classical.not_not, kt_0] at q
      omega
    have b88 : IV x44 0 0 := ⟨by have q1 := b45; have q2 := kc_0; omega, by have q1 := b45; have q2 := kc_0; omega⟩
    refine m_ldc (v := (-1000002)) C dX12_halves_7 q5_68 ?_
    exact m_iret C hr hlk (by decide) (by decide) dX12_halves_9 ⟨_, rfl, i42, g46, (iv_wk kc_m1000002 (by decide)), v48⟩

abbrev MS_X12_yearS : List (Nat × Nat) := [(22, 9)]
abbrev AS_X12_yearS : List Nat := [23]
set_option maxHeartbeats 4000000 in
set_option maxRecDepth 100000 in
theorem c_X12_yearS (l : Launch) (G : Gt) (σ : Sg) (S : Stt) (I : Nat → Stt) (hI : Inv σ) (hMA : MA σ S I) : Mc l G yX12_year cX12_year 1 (some .int) 3 69 0 0 [.ref (G.1 22 0)] σ (PI fun r τ => Inv τ ∧ Fr MS_X12_yearS AS_X12_yearS σ τ ∧ IV r (-1000003) 1 ∧ MA τ S I) := by
  refine Mc.of (L0 := [some (.ref (G.1 22 0))]) (by decide) (Nat.le_of_ble_eq_true rfl) rfl ?_
  intro p e s m args below meth c C hr hlk
  have C : Cx p s m args c cX12_year 1 "LeanTowerModel" := C
  have k0 : (0 : Int32).toInt = 0 := by decide
  have k1 : (1 : Int32).toInt = 1 := by decide
  refine m_aload_n C dX12_year_0 rfl rfl ?_
  refine m_callV (n := 0) (ci := 11) (st := []) C (c_X12_isTower l G σ  hI ) (by decide) (by decide) rfl rfl rfl q5_67 q5_64 q5_66 q0_38 q1_7 (by decide +kernel) rfl (by decide) (by decide) rfl (Nat.le_of_ble_eq_true rfl) dX12_year_1 ?_
  rintro _ τ1 ⟨x4, rfl, i2, f3, b5⟩
  have g6 : Fr MS_X12_yearS AS_X12_yearS σ τ1 := Fr.call (Fr.rf) f3 (by decide)
  have v8 : MA τ1 S I := hMA.fr hI f3 (by decide) (by decide)
  show MW p l e _ s m args below meth c _ 1 G 0 0 4 [some (.ref (G.1 22 0))] [.int x4] τ1
  refine m_if_ne (tgt := 10) C dX12_year_4 (by decide) (fun c9 => ?_) (fun c9 => ?_)
  · have f10 : x4.toInt ≠ 0 := by
      have q : _ := c9
      simp only [ti_nle, ti_nlt, ti_le, ti_lt, ti_eq, ti_ne, Classical.not_not, kt_0] at q
      omega
    have b11 : IV x4 1 1 := ⟨by have q1 := b5; have q2 := kc_0; omega, by have q1 := b5; have q2 := kc_0; omega⟩
    refine m_aload_n C dX12_year_10 rfl rfl ?_
    refine g_22_0 C q4_116 dX12_year_11 ?_
    refine m_bipush (v := 48) C dX12_year_14 (by decide) ?_
    refine al_23 C kc_48 (by decide) kn_48 dX12_year_16 ?_
    refine m_topi (fun x12 ex12 => ?_)
    refine m_callS (n := 1) (st := []) C (c_X12_sizeOf l G τ1 (x12) i2 ) q5_96 q5_94 q5_95 q1_7 (by decide +kernel) rfl (by decide) (by decide) rfl (Nat.le_of_ble_eq_true rfl) dX12_year_17 ?_
    rintro _ τ13 ⟨x16, rfl, i14, f15, b17⟩
    have g18 : Fr MS_X12_yearS AS_X12_yearS σ τ13 := Fr.call (g6) f15 (by decide)
    have v20 : MA τ13 S I := v8.fr i2 f15 (by decide) (by decide)
    show MW p l e _ s m args below meth c _ 1 G 0 0 20 [some (.ref (G.1 22 0))] [.int x16] τ13
    refine m_sipush (v := 9999) C dX12_year_20 (by decide) ?_
    refine m_icmp_gt (tgt := 42) C dX12_year_23 (by decide) (fun c21 => ?_) (fun c21 => ?_)
    · have f22 : 9999 < x16.toInt := by
        have q : _ := c21
        simp only [ti_nle, ti_nlt, ti_le, ti_lt, ti_eq, ti_ne, Classical.not_not, kt_9999] at q
        omega
      have b23 : IV x16 10000 2147483647 := ⟨by have q1 := kc_9999; have q2 := b17; omega, by have q1 := kc_9999; have q2 := b17; omega⟩
      refine m_ldc (v := (-1000003)) C dX12_year_42 q4_222 ?_
      exact m_iret C hr hlk (by decide) (by decide) dX12_year_44 ⟨_, rfl, i14, g18, (iv_wk kc_m1000003 (by decide)), v20⟩
    · have f24 : x16.toInt ≤ 9999 := by
        have q : _ := c21
        simp only [ti_nle, ti_nlt, ti_le, ti_lt, ti_eq, ti_ne, Classical.not_not, kt_9999] at q
        omega
      have b25 : IV x16 (-2147483648) 9999 := ⟨by have q1 := b17; have q2 := kc_9999; omega, by have q1 := b17; have q2 := kc_9999; omega⟩
      refine m_aload_n C dX12_year_26 rfl rfl ?_
      refine g_22_0 C q4_116 dX12_year_27 ?_
      refine m_bipush (v := 49) C dX12_year_30 (by decide) ?_
      refine al_23 C kc_49 (by decide) kn_49 dX12_year_32 ?_
      refine m_topi (fun x26 ex26 => ?_)
      refine m_callS (n := 1) (st := []) C (c_X12_sizeOf l G τ13 (x26) i14 ) q5_96 q5_94 q5_95 q1_7 (by decide +kernel) rfl (by decide) (by decide) rfl (Nat.le_of_ble_eq_true rfl) dX12_year_33 ?_
      rintro _ τ27 ⟨x30, rfl, i28, f29, b31⟩
      have g32 : Fr MS_X12_yearS AS_X12_yearS σ τ27 := Fr.call (g18) f29 (by decide)
      have v34 : MA τ27 S I := v20.fr i14 f29 (by decide) (by decide)
      show MW p l e _ s m args below meth c _ 1 G 0 0 36 [some (.ref (G.1 22 0))] [.int x30] τ27
      refine m_sipush (v := 9999) C dX12_year_36 (by decide) ?_
      refine m_icmp_le (tgt := 45) C dX12_year_39 (by decide) (fun c35 => ?_) (fun c35 => ?_)
      · have f36 : x30.toInt ≤ 9999 := by
          have q : _ := c35
          simp only [ti_nle, ti_nlt, ti_le, ti_lt, ti_eq, ti_ne, Classical.not_not, kt_9999] at q
          omega
        have b37 : IV x30 (-2147483648) 9999 := ⟨by have q1 := b31; have q2 := kc_9999; omega, by have q1 := b31; have q2 := kc_9999; omega⟩
        refine m_aload_n C dX12_year_45 rfl rfl ?_
        refine m_callV (n := 0) (ci := 11) (st := []) C (c_X12_mindsS l G τ27 S I  i28 v34) (by decide) (by decide) rfl rfl rfl q5_54 q5_51 q5_53 q0_37 q1_7 (by decide +kernel) rfl (by decide) (by decide) rfl (Nat.le_of_ble_eq_true rfl) dX12_year_46 ?_
        rintro _ τ38 ⟨rfl, i39, f40, h44⟩
        have g43 : Fr MS_X12_yearS AS_X12_yearS σ τ38 := Fr.call (g32) f40 (by decide)
        have v45 : MA τ38 S I := h44
        show MW p l e _ s m args below meth c _ 1 G 0 0 49 [some (.ref (G.1 22 0))] [] τ38
        refine m_aload_n C dX12_year_49 rfl rfl ?_
        refine m_iconst (v := 0) C dX12_year_50 (by decide) ?_
        have q46 := kt_0
        refine m_callV (n := 1) (ci := 11) (st := []) C (c_X12_creepS l G τ38 (0) i39 (iv_wk kc_0 (by decide)) (by omega)) (by decide) (by decide) rfl rfl rfl q5_107 q5_104 q5_106 q0_44 q1_7 (by decide +kernel) rfl (by decide) (by decide) rfl (Nat.le_of_ble_eq_true rfl) dX12_year_51 ?_
        rintro _ τ47 ⟨rfl, i48, f49, h53⟩
        have g52 : Fr MS_X12_yearS AS_X12_yearS σ τ47 := Fr.call (g43) f49 (by decide)
        have v54 : MA τ47 S I := v45.sf i39 f49 h53 (by decide) (by decide)
        show MW p l e _ s m args below meth c _ 1 G 0 0 54 [some (.ref (G.1 22 0))] [] τ47
        refine m_iconst (v := 1) C dX12_year_54 (by decide) ?_
        exact m_iret C hr hlk (by decide) (by decide) dX12_year_55 ⟨_, rfl, i48, g52, (iv_wk kc_1 (by decide)), v54⟩
      · have f55 : 9999 < x30.toInt := by
          have q : _ := c35
          simp only [ti_nle, ti_nlt, ti_le, ti_lt, ti_eq, ti_ne, Classical.not_not, kt_9999] at q
          omega
        have b56 : IV x30 10000 2147483647 := ⟨by have q1 := kc_9999; have q2 := b31; omega, by have q1 := kc_9999; have q2 := b31; omega⟩
        refine m_ldc (v := (-1000003)) C dX12_year_42 q4_222 ?_
        exact m_iret C hr hlk (by decide) (by decide) dX12_year_44 ⟨_, rfl, i28, g32, (iv_wk kc_m1000003 (by decide)), v34⟩
  · have f57 : x4.toInt = 0 := by
      have q : _ := c9
      simp only [ti_nle, ti_nlt, ti_le, ti_lt, ti_eq, ti_ne, Classical.not_not, kt_0] at q
      omega
    have b58 : IV x4 0 0 := ⟨by have q1 := b5; have q2 := kc_0; omega, by have q1 := b5; have q2 := kc_0; omega⟩
    refine m_ldc (v := (-1000002)) C dX12_year_7 q5_68 ?_
    exact m_iret C hr hlk (by decide) (by decide) dX12_year_9 ⟨_, rfl, i2, g6, (iv_wk kc_m1000002 (by decide)), v8⟩

abbrev MS_X12_undoS : List (Nat × Nat) := [(22, 9)]
abbrev AS_X12_undoS : List Nat := [23]
set_option maxHeartbeats 4000000 in
set_option maxRecDepth 100000 in
theorem c_X12_undoS (l : Launch) (G : Gt) (σ : Sg) (S : Stt) (I : Nat → Stt) (hI : Inv σ) (hMA : MA σ S I) : Mc l G yX12_undo cX12_undo 1 (some .int) 1 23 0 0 [.ref (G.1 22 0)] σ (PI fun r τ => Inv τ ∧ Fr MS_X12_undoS AS_X12_undoS σ τ ∧ IV r (-1000002) 23 ∧ MA τ S I) := by
  refine Mc.of (L0 := [some (.ref (G.1 22 0))]) (by decide) (Nat.le_of_ble_eq_true rfl) rfl ?_
  intro p e s m args below meth c C hr hlk
  have C : Cx p s m args c cX12_undo 1 "LeanTowerModel" := C
  have k0 : (0 : Int32).toInt = 0 := by decide
  have k1 : (1 : Int32).toInt = 1 := by decide
  have u1 : IV (gV σ 22 0 9) 0 24 := hI.1 22 0 9
  refine m_aload_n C dX12_undo_0 rfl rfl ?_
  refine g_22_9 C q4_125 dX12_undo_1 ?_
  refine m_eqs (w := (gV σ 22 0 9)) rfl ?_
  refine m_if_ne (tgt := 10) C dX12_undo_4 (by decide) (fun c2 => ?_) (fun c2 => ?_)
  · have f3 : (gV σ 22 0 9).toInt ≠ 0 := by
      have q : _ := c2
      simp only [ti_nle, ti_nlt, ti_le, ti_lt, ti_eq, ti_ne, Classical.not_not, kt_0] at q
      omega
    have b4 : IV (gV σ 22 0 9) 1 24 := ⟨by have q1 := u1; have q2 := kc_0; omega, by have q1 := u1; have q2 := kc_0; omega⟩
    refine m_aload_n C dX12_undo_10 rfl rfl ?_
    refine m_dup C dX12_undo_11 rfl ?_
    refine g_22_9 C q4_125 dX12_undo_12 ?_
    refine m_eqs (w := (gV σ 22 0 9)) rfl ?_
    refine m_iconst (v := 1) C dX12_undo_15 (by decide) ?_
    refine m_isub C dX12_undo_16 ?_
    refine m_topi (fun x5 ex5 => ?_)
    have tx5 : x5.toInt = (gV σ 22 0 9).toInt - 1 := by rw [ex5, ti_subv b4 kc_1 (by decide), kt_1]
    have b6 : IV x5 0 23 := by rw [ex5]; exact iv_sub b4 kc_1 (by decide)
    refine p_22_9 C q4_125 dX12_undo_17 ?_
    refine m_tops (fun τ7 eτ7 => ?_)
    have i8 : Inv τ7 := eτ7 ▸ Inv.put hI (by decide) (iv_wk b6 (by decide))
    have f9 : Fr MS_X12_undoS AS_X12_undoS σ τ7 := eτ7 ▸ Fr.put (Fr.rf) (Or.inl (by decide))
    have v10 := hMA.less eτ7 (by omega)
    refine m_aload_n C dX12_undo_20 rfl rfl ?_
    refine m_sipush (v := 250) C dX12_undo_21 (by decide) ?_
    refine m_bipush (v := 50) C dX12_undo_24 (by decide) ?_
    refine m_aload_n C dX12_undo_26 rfl rfl ?_
    refine g_22_9 C q4_125 dX12_undo_27 ?_
    refine m_eqs (w := x5) (show gV τ7 22 0 9 = x5 from gV_put eτ7 (gV_self _ _ _ _ _)) ?_
    refine m_imul C dX12_undo_30 ?_
    refine m_topi (fun x11 ex11 => ?_)
    have tx11 : x11.toInt = 50 * x5.toInt := by rw [ex11, ti_mulv kc_50 b6 (by decide), kt_50]
    have b12 : IV x11 0 1150 := by rw [ex11]; exact iv_mul kc_50 b6 (by decide)
    refine m_iadd C dX12_undo_31 ?_
    refine m_topi (fun x13 ex13 => ?_)
    have tx13 : x13.toInt = 250 + x11.toInt := by rw [ex13, ti_addv kc_250 b12 (by decide), kt_250]
    have b14 : IV x13 250 1400 := by rw [ex13]; exact iv_add kc_250 b12 (by decide)
    refine m_iconst (v := 0) C dX12_undo_32 (by decide) ?_
    have q15 : (gV τ7 22 0 9).toInt = x5.toInt := congrArg Int32.toInt (show (gV τ7 22 0 9) = x5 from (show gV τ7 22 0 9 = x5 from gV_put eτ7 (gV_self _ _ _ _ _)))
    have q16 := kt_0
    refine m_callV (n := 2) (ci := 11) (st := []) C (c_X12_copyAll l G τ7 (x13) (0) i8 (iv_wk b14 (by decide)) (iv_wk kc_0 (by decide)) (by omega) (by omega) (by omega) (Or.inl (by omega))) (by decide) (by decide) rfl rfl rfl q5_38 q5_35 q5_37 q0_35 q1_7 (by decide +kernel) rfl (by decide) (by decide) rfl (Nat.le_of_ble_eq_true rfl) dX12_undo_33 ?_
    rintro _ τ17 ⟨rfl, i18, f19, h23⟩
    have g22 : Fr MS_X12_undoS AS_X12_undoS σ τ17 := Fr.call (f9) f19 (by decide)
    have v24 := MA.back (S' := S) v10.1 h23 (by rw [show x13.toInt.toNat = 250 + 50 * (gV τ7 22 0 9).toInt.toNat by omega]; exact v10.2 _ (by omega)) (by decide) (Or.inl rfl)
    have q25 : (gV τ17 22 0 9).toInt = x5.toInt := congrArg Int32.toInt (show (gV τ17 22 0 9) = x5 from (show gV τ17 22 0 9 = x5 from (f19.1 22 0 (9) (by decide) (by decide)).trans (show gV τ7 22 0 9 = x5 from gV_put eτ7 (gV_self _ _ _ _ _))))
    show MW p l e _ s m args below meth c _ 1 G 0 0 36 [some (.ref (G.1 22 0))] [] τ17
    refine m_aload_n C dX12_undo_36 rfl rfl ?_
    refine g_22_9 C q4_125 dX12_undo_37 ?_
    refine m_eqs (w := x5) (show gV τ17 22 0 9 = x5 from (f19.1 22 0 (9) (by decide) (by decide)).trans (show gV τ7 22 0 9 = x5 from gV_put eτ7 (gV_self _ _ _ _ _))) ?_
    exact m_iret C hr hlk (by decide) (by decide) dX12_undo_40 ⟨_, rfl, i18, g22, (iv_wk b6 (by decide)), v24⟩
  · have f26 : (gV σ 22 0 9).toInt = 0 := by
      have q : _ := c2
      simp only [ti_nle, ti_nlt, ti_le, ti_lt, ti_eq, ti_ne, Classical.not_not, kt_0] at q
      omega
    have b27 : IV (gV σ 22 0 9) 0 0 := ⟨by have q1 := u1; have q2 := kc_0; omega, by have q1 := u1; have q2 := kc_0; omega⟩
    refine m_ldc (v := (-1000002)) C dX12_undo_7 q5_68 ?_
    exact m_iret C hr hlk (by decide) (by decide) dX12_undo_9 ⟨_, rfl, hI, Fr.rf, (iv_wk kc_m1000002 (by decide)), hMA⟩

abbrev MS_X12_isTowerS : List (Nat × Nat) := []
abbrev AS_X12_isTowerS : List Nat := []
set_option maxHeartbeats 4000000 in
set_option maxRecDepth 100000 in
theorem c_X12_isTowerS (l : Launch) (G : Gt) (σ : Sg) (hI : Inv σ) : Mc l G yX12_isTower cX12_isTower 1 (some .boolean) 0 0 0 0 [.ref (G.1 22 0)] σ (PI fun r τ => Inv τ ∧ Fr MS_X12_isTowerS AS_X12_isTowerS σ τ ∧ IV r 0 1 ∧ ((r.toInt = 1 ∧ 0 < (gV σ 23 0 0).toInt) ∨ (r.toInt = 0 ∧ (gV σ 23 0 0).toInt ≤ 0))) := by
  refine Mc.of (L0 := [some (.ref (G.1 22 0))]) (by decide) (Nat.le_of_ble_eq_true rfl) rfl ?_
  intro p e s m args below meth c C hr hlk
  have C : Cx p s m args c cX12_isTower 1 "LeanTowerModel" := C
  have k0 : (0 : Int32).toInt = 0 := by decide
  have k1 : (1 : Int32).toInt = 1 := by decide
  refine m_aload_n C dX12_isTower_0 rfl rfl ?_
  refine g_22_0 C q4_116 dX12_isTower_1 ?_
  refine m_iconst (v := 0) C dX12_isTower_4 (by decide) ?_
  refine al_23 C kc_0 (by decide) kn_0 dX12_isTower_5 ?_
  refine m_eqs (w := (gV σ 23 0 0)) rfl ?_
  refine m_if_le (tgt := 13) C dX12_isTower_6 (by decide) (fun c1 => ?_) (fun c1 => ?_)
  · have f2 : (gV σ 23 0 0).toInt ≤ 0 := by
      have q : _ := c1
      simp only [ti_nle, ti_nlt, ti_le, ti_lt, ti_eq, ti_ne, Classical.not_not, kt_0] at q
      omega
    have b3 : IV (gV σ 23 0 0) (-2147483648) 0 := ⟨by have q1 := (iv_any (gV σ 23 0 0)); have q2 := kc_0; omega, by have q1 := (iv_any (gV σ 23 0 0)); have q2 := kc_0; omega⟩
    refine m_iconst (v := 0) C dX12_isTower_13 (by decide) ?_
    exact m_zret C hr rfl hlk (by decide) (by decide) dX12_isTower_14 ⟨_, rfl, hI, Fr.rf, (iv_wk kc_0 (by decide)), (by have q := kt_0; omega)⟩
  · have f4 : 0 < (gV σ 23 0 0).toInt := by
      have q : _ := c1
      simp only [ti_nle, ti_nlt, ti_le, ti_lt, ti_eq, ti_ne, Classical.not_not, kt_0] at q
      omega
    have b5 : IV (gV σ 23 0 0) 1 2147483647 := ⟨by have q1 := kc_0; have q2 := (iv_any (gV σ 23 0 0)); omega, by have q1 := kc_0; have q2 := (iv_any (gV σ 23 0 0)); omega⟩
    refine m_iconst (v := 1) C dX12_isTower_9 (by decide) ?_
    refine m_goto (tgt := 14) C dX12_isTower_10 (by decide) ?_
    exact m_zret C hr rfl hlk (by decide) (by decide) dX12_isTower_14 ⟨_, rfl, hI, Fr.rf, (iv_wk kc_1 (by decide)), (by have q := kt_1; omega)⟩

abbrev MS_X12_imageS : List (Nat × Nat) := []
abbrev AS_X12_imageS : List Nat := [23, 24]
set_option maxHeartbeats 4000000 in
set_option maxRecDepth 100000 in
theorem c_X12_imageS (l : Launch) (G : Gt) (σ : Sg) (S : Stt) (I : Nat → Stt) (a1 : Int32) (hI : Inv σ) (hMA : MA σ S I) : Mc l G yX12_image cX12_image 2 (some .int) 1 25 0 0 [.ref (G.1 22 0), .int a1] σ (PI fun r τ => Inv τ ∧ Fr MS_X12_imageS AS_X12_imageS σ τ ∧ IV r (-1000002) 1 ∧ (((a1.toInt < 0 ∨ 1 < a1.toInt) ∧ r.toInt = -1000001 ∧ MA τ S I) ∨ ((0 ≤ a1.toInt ∧ a1.toInt ≤ 1) ∧ S.1 ≤ 0 ∧ r.toInt = -1000002 ∧ MA τ S I) ∨ ((0 ≤ a1.toInt ∧ a1.toInt ≤ 1) ∧ 0 < S.1 ∧ r.toInt = 1 ∧ MA τ S (upI I (a1.toInt.toNat) S)))) := by
  refine Mc.of (L0 := [some (.ref (G.1 22 0)), some (.int a1)]) (by decide) (Nat.le_of_ble_eq_true rfl) rfl ?_
  intro p e s m args below meth c C hr hlk
  have C : Cx p s m args c cX12_image 2 "LeanTowerModel" := C
  have k0 : (0 : Int32).toInt = 0 := by decide
  have k1 : (1 : Int32).toInt = 1 := by decide
  refine m_iload_n C dX12_image_0 rfl rfl ?_
  refine m_i2l C dX12_image_1 ?_
  refine m_lconst (v := 0) C dX12_image_2 (by decide) ?_
  refine m_lconst (v := 1) C dX12_image_3 (by decide) ?_
  refine m_callS (n := 3) (st := []) C (c_X12_in l G σ ((a1 : Int32).toInt64) (0) (1) hI ) q4_190 q4_188 q4_189 q1_7 (by decide +kernel) rfl (by decide) (by decide) rfl (Nat.le_of_ble_eq_true rfl) dX12_image_4 ?_
  rintro _ τ1 ⟨x4, rfl, i2, f3, b5, h7⟩
  have g6 : Fr MS_X12_imageS AS_X12_imageS σ τ1 := Fr.call (Fr.rf) f3 (by decide)
  have v8 : MA τ1 S I := hMA.fr hI f3 (by decide) (by decide)
  have f9 := tl_i a1
  have f10 := kl_0
  have f11 := kl_1
  rcases h7 with ⟨h7_0, h7_1, h7_2⟩ | ⟨h7_0, h7_1⟩
  · skip
    have b12 : IV x4 1 1 := ⟨by omega, by omega⟩
    show MW p l e _ s m args below meth c _ 2 G 0 0 7 [some (.ref (G.1 22 0)), some (.int a1)] [.int x4] τ1
    refine m_if_ne (tgt := 13) C dX12_image_7 (by decide) (fun c13 => ?_) (fun c13 => ?_)
    · have f14 : x4.toInt ≠ 0 := by
        have q : _ := c13
        simp only [ti_nle, ti_nlt, ti_le, ti_lt, ti_eq, ti_ne, Classical.not_not, kt_0] at q
        omega
      have b15 : IV a1 0 1 := ⟨by have q1 := (iv_any a1); omega, by have q1 := (iv_any a1); omega⟩
      have q16 := v8.1.2.1
      refine m_aload_n C dX12_image_13 rfl rfl ?_
      refine m_callV (n := 0) (ci := 11) (st := []) C (c_X12_isTowerS l G τ1  i2 ) (by decide) (by decide) rfl rfl rfl q5_67 q5_64 q5_66 q0_38 q1_7 (by decide +kernel) rfl (by decide) (by decide) rfl (Nat.le_of_ble_eq_true rfl) dX12_image_14 ?_
      rintro _ τ17 ⟨x20, rfl, i18, f19, b21, h23⟩
      have g22 : Fr MS_X12_imageS AS_X12_imageS σ τ17 := Fr.call (g6) f19 (by decide)
      have v24 : MA τ17 S I := v8.fr i2 f19 (by decide) (by decide)
      rcases h23 with ⟨h23_0, h23_1⟩ | ⟨h23_0, h23_1⟩
      · skip
        have b25 : IV x20 1 1 := ⟨by omega, by omega⟩
        show MW p l e _ s m args below meth c _ 2 G 0 0 17 [some (.ref (G.1 22 0)), some (.int a1)] [.int x20] τ17
        refine m_if_ne (tgt := 23) C dX12_image_17 (by decide) (fun c26 => ?_) (fun c26 => ?_)
        · have f27 : x20.toInt ≠ 0 := by
            have q : _ := c26
            simp only [ti_nle, ti_nlt, ti_le, ti_lt, ti_eq, ti_ne, Classical.not_not, kt_0] at q
            omega
          refine m_aload_n C dX12_image_23 rfl rfl ?_
          refine m_iconst (v := 0) C dX12_image_24 (by decide) ?_
          refine m_bipush (v := 50) C dX12_image_25 (by decide) ?_
          refine m_iconst (v := 1) C dX12_image_27 (by decide) ?_
          refine m_iload_n C dX12_image_28 rfl rfl ?_
          refine m_iadd C dX12_image_29 ?_
          refine m_topi (fun x28 ex28 => ?_)
          have tx28 : x28.toInt = 1 + a1.toInt := by rw [ex28, ti_addv kc_1 b15 (by decide), kt_1]
          have b29 : IV x28 1 2 := by rw [ex28]; exact iv_add kc_1 b15 (by decide)
          refine m_imul C dX12_image_30 ?_
          refine m_topi (fun x30 ex30 => ?_)
          have tx30 : x30.toInt = 50 * x28.toInt := by rw [ex30, ti_mulv kc_50 b29 (by decide), kt_50]
          have b31 : IV x30 0 100 := by rw [ex30]; exact iv_mul kc_50 b29 (by decide)
          have q32 := kt_0
          refine m_callV (n := 2) (ci := 11) (st := []) C (c_X12_copyAll l G τ17 (0) (x30) i18 (iv_wk kc_0 (by decide)) (iv_wk b31 (by decide)) (by omega) (by omega) (by omega) (Or.inl (by omega))) (by decide) (by decide) rfl rfl rfl q5_38 q5_35 q5_37 q0_35 q1_7 (by decide +kernel) rfl (by decide) (by decide) rfl (Nat.le_of_ble_eq_true rfl) dX12_image_31 ?_
          rintro _ τ33 ⟨rfl, i34, f35, h39⟩
          have g38 : Fr MS_X12_imageS AS_X12_imageS σ τ33 := Fr.call (g22) f35 (by decide)
          show MW p l e _ s m args below meth c _ 2 G 0 0 34 [some (.ref (G.1 22 0)), some (.int a1)] [] τ33
          refine m_aload_n C dX12_image_34 rfl rfl ?_
          refine g_22_1 C q4_117 dX12_image_35 ?_
          refine m_iload_n C dX12_image_38 rfl rfl ?_
          refine m_iconst (v := 1) C dX12_image_39 (by decide) ?_
          refine as_24 C b15 (by decide) rfl dX12_image_40 ?_
          obtain ⟨x40, ex40⟩ : ∃ y : Int32, y = vp_nar .boolean 1 := ⟨_, rfl⟩
          rw [← ex40]
          refine m_tops (fun τ41 eτ41 => ?_)
          have i42 : Inv τ41 := eτ41 ▸ Inv.putF i34 (by decide) rfl
          have f43 : Fr MS_X12_imageS AS_X12_imageS σ τ41 := eτ41 ▸ Fr.put (g38) (Or.inr (by decide))
          have v44 := v24.image i18 h39 kn_0 (show x30.toInt.toNat = 50 + 50 * (a1.toInt.toNat) by omega) (by omega) eτ41 (by rw [ex40]; decide) (by omega)
          refine m_iconst (v := 1) C dX12_image_41 (by decide) ?_
          exact m_iret C hr hlk (by decide) (by decide) dX12_image_42 ⟨_, rfl, i42, f43, (iv_wk kc_1 (by decide)), (Or.inr (Or.inr (⟨by have qk := kt_1; omega, by have qk := kt_1; omega, by have qk := kt_1; omega, v44⟩)))⟩
        · exfalso
          have q : _ := c26
          simp only [ti_nle, ti_nlt, ti_le, ti_lt, ti_eq, ti_ne, Classical.not_not, kt_0] at q
          have q1 := b25; have q2 := kc_0; omega
      · skip
        have b46 : IV x20 0 0 := ⟨by omega, by omega⟩
        show MW p l e _ s m args below meth c _ 2 G 0 0 17 [some (.ref (G.1 22 0)), some (.int a1)] [.int x20] τ17
        refine m_if_ne (tgt := 23) C dX12_image_17 (by decide) (fun c47 => ?_) (fun c47 => ?_)
        · exfalso
          have q : _ := c47
          simp only [ti_nle, ti_nlt, ti_le, ti_lt, ti_eq, ti_ne, Classical.not_not, kt_0] at q
          have q1 := b46; have q2 := kc_0; omega
        · have f49 : x20.toInt = 0 := by
            have q : _ := c47
            simp only [ti_nle, ti_nlt, ti_le, ti_lt, ti_eq, ti_ne, Classical.not_not, kt_0] at q
            omega
          refine m_ldc (v := (-1000002)) C dX12_image_20 q5_68 ?_
          exact m_iret C hr hlk (by decide) (by decide) dX12_image_22 ⟨_, rfl, i18, g22, (iv_wk kc_m1000002 (by decide)), (Or.inr (Or.inl ⟨by have qk := kt_m1000002; omega, by have qk := kt_m1000002; omega, by have qk := kt_m1000002; omega, v24⟩))⟩
    · exfalso
      have q : _ := c13
      simp only [ti_nle, ti_nlt, ti_le, ti_lt, ti_eq, ti_ne, Classical.not_not, kt_0] at q
      have q1 := b12; have q2 := kc_0; omega
  · skip
    have b51 : IV x4 0 0 := ⟨by omega, by omega⟩
    show MW p l e _ s m args below meth c _ 2 G 0 0 7 [some (.ref (G.1 22 0)), some (.int a1)] [.int x4] τ1
    refine m_if_ne (tgt := 13) C dX12_image_7 (by decide) (fun c52 => ?_) (fun c52 => ?_)
    · exfalso
      have q : _ := c52
      simp only [ti_nle, ti_nlt, ti_le, ti_lt, ti_eq, ti_ne, Classical.not_not, kt_0] at q
      have q1 := b51; have q2 := kc_0; omega
    · have f54 : x4.toInt = 0 := by
        have q : _ := c52
        simp only [ti_nle, ti_nlt, ti_le, ti_lt, ti_eq, ti_ne, Classical.not_not, kt_0] at q
        omega
      refine m_ldc (v := (-1000001)) C dX12_image_10 q4_192 ?_
      exact m_iret C hr hlk (by decide) (by decide) dX12_image_12 ⟨_, rfl, i2, g6, (iv_wk kc_m1000001 (by decide)), (Or.inl ⟨by have qk := kt_m1000001; omega, by have qk := kt_m1000001; omega, v8⟩)⟩

abbrev MS_X12_restoreS : List (Nat × Nat) := [(22, 9)]
abbrev AS_X12_restoreS : List Nat := [23]
set_option maxHeartbeats 4000000 in
set_option maxRecDepth 100000 in
theorem c_X12_restoreS (l : Launch) (G : Gt) (σ : Sg) (S : Stt) (I : Nat → Stt) (a1 : Int32) (hI : Inv σ) (hMA : MA σ S I) : Mc l G yX12_restore cX12_restore 2 (some .int) 1 25 0 0 [.ref (G.1 22 0), .int a1] σ (PI fun r τ => Inv τ ∧ Fr MS_X12_restoreS AS_X12_restoreS σ τ ∧ IV r (-1000002) 1 ∧ (((a1.toInt < 0 ∨ 1 < a1.toInt) ∧ r.toInt = -1000001 ∧ MA τ S I) ∨ ((0 ≤ a1.toInt ∧ a1.toInt ≤ 1) ∧ (I (a1.toInt.toNat)).1 ≤ 0 ∧ r.toInt = -1000002 ∧ MA τ S I) ∨ ((0 ≤ a1.toInt ∧ a1.toInt ≤ 1) ∧ 0 < (I (a1.toInt.toNat)).1 ∧ r.toInt = 1 ∧ MA τ (I (a1.toInt.toNat)) I))) := by
  refine Mc.of (L0 := [some (.ref (G.1 22 0)), some (.int a1)]) (by decide) (Nat.le_of_ble_eq_true rfl) rfl ?_
  intro p e s m args below meth c C hr hlk
  have C : Cx p s m args c cX12_restore 2 "LeanTowerModel" := C
  have k0 : (0 : Int32).toInt = 0 := by decide
  have k1 : (1 : Int32).toInt = 1 := by decide
  refine m_iload_n C dX12_restore_0 rfl rfl ?_
  refine m_i2l C dX12_restore_1 ?_
  refine m_lconst (v := 0) C dX12_restore_2 (by decide) ?_
  refine m_lconst (v := 1) C dX12_restore_3 (by decide) ?_
  refine m_callS (n := 3) (st := []) C (c_X12_in l G σ ((a1 : Int32).toInt64) (0) (1) hI ) q4_190 q4_188 q4_189 q1_7 (by decide +kernel) rfl (by decide) (by decide) rfl (Nat.le_of_ble_eq_true rfl) dX12_restore_4 ?_
  rintro _ τ1 ⟨x4, rfl, i2, f3, b5, h7⟩
  have g6 : Fr MS_X12_restoreS AS_X12_restoreS σ τ1 := Fr.call (Fr.rf) f3 (by decide)
  have v8 : MA τ1 S I := hMA.fr hI f3 (by decide) (by decide)
  have f9 := tl_i a1
  have f10 := kl_0
  have f11 := kl_1
  rcases h7 with ⟨h7_0, h7_1, h7_2⟩ | ⟨h7_0, h7_1⟩
  · skip
    have b12 : IV x4 1 1 := ⟨by omega, by omega⟩
    show MW p l e _ s m args below meth c _ 2 G 0 0 7 [some (.ref (G.1 22 0)), some (.int a1)] [.int x4] τ1
    refine m_if_ne (tgt := 13) C dX12_restore_7 (by decide) (fun c13 => ?_) (fun c13 => ?_)
    · have f14 : x4.toInt ≠ 0 := by
        have q : _ := c13
        simp only [ti_nle, ti_nlt, ti_le, ti_lt, ti_eq, ti_ne, Classical.not_not, kt_0] at q
        omega
      have b15 : IV a1 0 1 := ⟨by have q1 := (iv_any a1); omega, by have q1 := (iv_any a1); omega⟩
      have q16 := (v8.2.2 (a1.toInt.toNat) (by omega)).2
      refine m_aload_n C dX12_restore_13 rfl rfl ?_
      refine g_22_1 C q4_117 dX12_restore_14 ?_
      refine m_iload_n C dX12_restore_17 rfl rfl ?_
      refine al_24 C b15 (by decide) rfl dX12_restore_18 ?_
      refine m_topi (fun x17 ex17 => ?_)
      have q18 : x17.toInt = (gV τ1 24 0 (a1.toInt.toNat)).toInt := by rw [ex17]
      refine m_if_ne (tgt := 25) C dX12_restore_19 (by decide) (fun c19 => ?_) (fun c19 => ?_)
      · have f20 : x17.toInt ≠ 0 := by
          have q : _ := c19
          simp only [ti_nle, ti_nlt, ti_le, ti_lt, ti_eq, ti_ne, Classical.not_not, kt_0] at q
          omega
        refine m_aload_n C dX12_restore_25 rfl rfl ?_
        refine m_bipush (v := 50) C dX12_restore_26 (by decide) ?_
        refine m_iconst (v := 1) C dX12_restore_28 (by decide) ?_
        refine m_iload_n C dX12_restore_29 rfl rfl ?_
        refine m_iadd C dX12_restore_30 ?_
        refine m_topi (fun x21 ex21 => ?_)
        have tx21 : x21.toInt = 1 + a1.toInt := by rw [ex21, ti_addv kc_1 b15 (by decide), kt_1]
        have b22 : IV x21 1 2 := by rw [ex21]; exact iv_add kc_1 b15 (by decide)
        refine m_imul C dX12_restore_31 ?_
        refine m_topi (fun x23 ex23 => ?_)
        have tx23 : x23.toInt = 50 * x21.toInt := by rw [ex23, ti_mulv kc_50 b22 (by decide), kt_50]
        have b24 : IV x23 0 100 := by rw [ex23]; exact iv_mul kc_50 b22 (by decide)
        refine m_iconst (v := 0) C dX12_restore_32 (by decide) ?_
        have q25 := kt_0
        refine m_callV (n := 2) (ci := 11) (st := []) C (c_X12_copyAll l G τ1 (x23) (0) i2 (iv_wk b24 (by decide)) (iv_wk kc_0 (by decide)) (by omega) (by omega) (by omega) (Or.inl (by omega))) (by decide) (by decide) rfl rfl rfl q5_38 q5_35 q5_37 q0_35 q1_7 (by decide +kernel) rfl (by decide) (by decide) rfl (Nat.le_of_ble_eq_true rfl) dX12_restore_33 ?_
        rintro _ τ26 ⟨rfl, i27, f28, h32⟩
        have g31 : Fr MS_X12_restoreS AS_X12_restoreS σ τ26 := Fr.call (g6) f28 (by decide)
        show MW p l e _ s m args below meth c _ 2 G 0 0 36 [some (.ref (G.1 22 0)), some (.int a1)] [] τ26
        refine m_aload_n C dX12_restore_36 rfl rfl ?_
        refine m_iconst (v := 0) C dX12_restore_37 (by decide) ?_
        refine p_22_9 C q4_125 dX12_restore_38 ?_
        refine m_tops (fun τ33 eτ33 => ?_)
        have i34 : Inv τ33 := eτ33 ▸ Inv.put i27 (by decide) (iv_wk kc_0 (by decide))
        have f35 : Fr MS_X12_restoreS AS_X12_restoreS σ τ33 := eτ33 ▸ Fr.put (g31) (Or.inl (by decide))
        have v36 := v8.fresh h32 (by rw [show x23.toInt.toNat = 50 + 50 * (a1.toInt.toNat) by omega]; exact (v8.2.2 (a1.toInt.toNat) (by omega)).1) (by decide) eτ33 kt_0
        refine m_iconst (v := 1) C dX12_restore_41 (by decide) ?_
        exact m_iret C hr hlk (by decide) (by decide) dX12_restore_42 ⟨_, rfl, i34, f35, (iv_wk kc_1 (by decide)), (Or.inr (Or.inr (⟨by have qk := kt_1; omega, by have qk := kt_1; omega, by have qk := kt_1; omega, v36⟩)))⟩
      · have f37 : x17.toInt = 0 := by
          have q : _ := c19
          simp only [ti_nle, ti_nlt, ti_le, ti_lt, ti_eq, ti_ne, Classical.not_not, kt_0] at q
          omega
        have b38 : IV x17 0 0 := ⟨by have q1 := (iv_any x17); have q2 := kc_0; omega, by have q1 := (iv_any x17); have q2 := kc_0; omega⟩
        refine m_ldc (v := (-1000002)) C dX12_restore_22 q5_68 ?_
        exact m_iret C hr hlk (by decide) (by decide) dX12_restore_24 ⟨_, rfl, i2, g6, (iv_wk kc_m1000002 (by decide)), (Or.inr (Or.inl ⟨by have qk := kt_m1000002; omega, by have qk := kt_m1000002; omega, by have qk := kt_m1000002; omega, v8⟩))⟩
    · exfalso
      have q : _ := c13
      simp only [ti_nle, ti_nlt, ti_le, ti_lt, ti_eq, ti_ne, Classical.not_not, kt_0] at q
      have q1 := b12; have q2 := kc_0; omega
  · skip
    have b40 : IV x4 0 0 := ⟨by omega, by omega⟩
    show MW p l e _ s m args below meth c _ 2 G 0 0 7 [some (.ref (G.1 22 0)), some (.int a1)] [.int x4] τ1
    refine m_if_ne (tgt := 13) C dX12_restore_7 (by decide) (fun c41 => ?_) (fun c41 => ?_)
    · exfalso
      have q : _ := c41
      simp only [ti_nle, ti_nlt, ti_le, ti_lt, ti_eq, ti_ne, Classical.not_not, kt_0] at q
      have q1 := b40; have q2 := kc_0; omega
    · have f43 : x4.toInt = 0 := by
        have q : _ := c41
        simp only [ti_nle, ti_nlt, ti_le, ti_lt, ti_eq, ti_ne, Classical.not_not, kt_0] at q
        omega
      refine m_ldc (v := (-1000001)) C dX12_restore_10 q4_192 ?_
      exact m_iret C hr hlk (by decide) (by decide) dX12_restore_12 ⟨_, rfl, i2, g6, (iv_wk kc_m1000001 (by decide)), (Or.inl ⟨by have qk := kt_m1000001; omega, by have qk := kt_m1000001; omega, v8⟩)⟩
