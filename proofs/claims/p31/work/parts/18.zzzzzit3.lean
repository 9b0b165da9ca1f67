abbrev MS_X12_marksQ : List (Nat × Nat) := [(22, 8)]
abbrev AS_X12_marksQ : List Nat := [23]
set_option maxHeartbeats 4000000 in
set_option maxRecDepth 100000 in
theorem c_X12_marksQ (l : Launch) (G : Gt) (σ : Sg) (S : Stt) (I : Nat → Stt) (a1 : Int32) (a2 : Int32) (a3 : Int32) (a4 : Int32) (hI : Inv σ) (hMA : MA σ S I) : Mc l G yX12_marks cX12_marks 8 (some .int) 2 46 0 0 [.ref (G.1 22 0), .int a1, .int a2, .int a3, .int a4] σ (PI fun r τ => Inv τ ∧ Fr MS_X12_marksQ AS_X12_marksQ σ τ ∧ IV r (-2147483648) 2147483647 ∧ (SFm σ τ ∧ ((S.1 ≤ 0 ∧ (gV τ 22 0 8).toInt = (gV σ 22 0 8).toInt) ∨ (0 < S.1 ∧ (a1.toInt < 0 ∨ 7 < a1.toInt ∨ a2.toInt < -999 ∨ 999 < a2.toInt ∨ a3.toInt < -999 ∨ 999 < a3.toInt ∨ a4.toInt < -1) ∧ (gV τ 22 0 8).toInt = (gV σ 22 0 8).toInt) ∨ ((0 < S.1 ∧ ((0 ≤ a1.toInt ∧ a1.toInt ≤ 7) ∧ -999 ≤ a2.toInt ∧ a2.toInt ≤ 999 ∧ -999 ≤ a3.toInt ∧ a3.toInt ≤ 999 ∧ -1 ≤ a4.toInt)) ∧ (gV σ 26 0 (a1.toInt.toNat)).toInt < 0 ∧ (gV τ 22 0 8).toInt = 1) ∨ ((0 < S.1 ∧ ((0 ≤ a1.toInt ∧ a1.toInt ≤ 7) ∧ -999 ≤ a2.toInt ∧ a2.toInt ≤ 999 ∧ -999 ≤ a3.toInt ∧ a3.toInt ≤ 999 ∧ -1 ≤ a4.toInt)) ∧ 0 ≤ (gV σ 26 0 (a1.toInt.toNat)).toInt ∧ (gV σ 27 0 (a1.toInt.toNat)).toInt < S.2.1 ∧ (gV τ 22 0 8).toInt = 2) ∨ ((0 < S.1 ∧ ((0 ≤ a1.toInt ∧ a1.toInt ≤ 7) ∧ -999 ≤ a2.toInt ∧ a2.toInt ≤ 999 ∧ -999 ≤ a3.toInt ∧ a3.toInt ≤ 999 ∧ -1 ≤ a4.toInt)) ∧ 0 ≤ (gV σ 26 0 (a1.toInt.toNat)).toInt ∧ S.2.1 ≤ (gV σ 27 0 (a1.toInt.toNat)).toInt ∧ ¬ AlJ σ (a1.toInt.toNat) S.2.1 (-1) (S.1 - 1) ∧ (gV τ 22 0 8).toInt = (gV σ 22 0 8).toInt) ∨ ((0 < S.1 ∧ ((0 ≤ a1.toInt ∧ a1.toInt ≤ 7) ∧ -999 ≤ a2.toInt ∧ a2.toInt ≤ 999 ∧ -999 ≤ a3.toInt ∧ a3.toInt ≤ 999 ∧ -1 ≤ a4.toInt)) ∧ 0 ≤ (gV σ 26 0 (a1.toInt.toNat)).toInt ∧ S.2.1 ≤ (gV σ 27 0 (a1.toInt.toNat)).toInt ∧ AlJ σ (a1.toInt.toNat) S.2.1 (-1) (S.1 - 1) ∧ (gV τ 22 0 8).toInt = 0)))) := by
  refine Mc.of (L0 := [some (.ref (G.1 22 0)), some (.int a1), some (.int a2), some (.int a3), some (.int a4), none, none, none]) (by decide) (Nat.le_of_ble_eq_true rfl) rfl ?_
  intro p e s m args below meth c C hr hlk
  have C : Cx p s m args c cX12_marks 8 "LeanTowerModel" := C
  have k0 : (0 : Int32).toInt = 0 := by decide
  have k1 : (1 : Int32).toInt = 1 := by decide
  have J158 : ∀ (n : Nat) (τ : Sg) (y5 : Int32) (y6 : Int32), Inv τ → Fr MS_X12_marksQ AS_X12_marksQ σ τ → IV a1 0 7 → IV a2 (-999) 999 → IV a3 (-999) 999 → IV a4 (-1) 2147483647 → IV y5 (-2147483648) 2147483647 → IV y6 0 128 → (SFm σ τ) → ((0 < S.1 ∧ ((0 ≤ a1.toInt ∧ a1.toInt ≤ 7) ∧ -999 ≤ a2.toInt ∧ a2.toInt ≤ 999 ∧ -999 ≤ a3.toInt ∧ a3.toInt ≤ 999 ∧ -1 ≤ a4.toInt) ∧ 0 ≤ (gV σ 26 0 (a1.toInt.toNat)).toInt ∧ S.2.1 ≤ (gV σ 27 0 (a1.toInt.toNat)).toInt)) → (((gV τ 23 0 2).toInt = S.2.1 ∧ (gV τ 23 0 0).toInt = S.1 ∧ 0 ≤ S.1 ∧ S.1 ≤ 32 ∧ S.2.1 ≤ 7)) → (AlJ σ (a1.toInt.toNat) S.2.1 (-1) (S.1 - 1)) → (128 - y6.toInt).toNat < n → MW p l e { frames := 2, cells := 0, slots := 0, locals := 46 } s m args below meth c (MQ below (QP G (PI fun r τ => Inv τ ∧ Fr MS_X12_marksQ AS_X12_marksQ σ τ ∧ IV r (-2147483648) 2147483647 ∧ (SFm σ τ ∧ ((S.1 ≤ 0 ∧ (gV τ 22 0 8).toInt = (gV σ 22 0 8).toInt) ∨ (0 < S.1 ∧ (a1.toInt < 0 ∨ 7 < a1.toInt ∨ a2.toInt < -999 ∨ 999 < a2.toInt ∨ a3.toInt < -999 ∨ 999 < a3.toInt ∨ a4.toInt < -1) ∧ (gV τ 22 0 8).toInt = (gV σ 22 0 8).toInt) ∨ ((0 < S.1 ∧ ((0 ≤ a1.toInt ∧ a1.toInt ≤ 7) ∧ -999 ≤ a2.toInt ∧ a2.toInt ≤ 999 ∧ -999 ≤ a3.toInt ∧ a3.toInt ≤ 999 ∧ -1 ≤ a4.toInt)) ∧ (gV σ 26 0 (a1.toInt.toNat)).toInt < 0 ∧ (gV τ 22 0 8).toInt = 1) ∨ ((0 < S.1 ∧ ((0 ≤ a1.toInt ∧ a1.toInt ≤ 7) ∧ -999 ≤ a2.toInt ∧ a2.toInt ≤ 999 ∧ -999 ≤ a3.toInt ∧ a3.toInt ≤ 999 ∧ -1 ≤ a4.toInt)) ∧ 0 ≤ (gV σ 26 0 (a1.toInt.toNat)).toInt ∧ (gV σ 27 0 (a1.toInt.toNat)).toInt < S.2.1 ∧ (gV τ 22 0 8).toInt = 2) ∨ ((0 < S.1 ∧ ((0 ≤ a1.toInt ∧ a1.toInt ≤ 7) ∧ -999 ≤ a2.toInt ∧ a2.toInt ≤ 999 ∧ -999 ≤ a3.toInt ∧ a3.toInt ≤ 999 ∧ -1 ≤ a4.toInt)) ∧ 0 ≤ (gV σ 26 0 (a1.toInt.toNat)).toInt ∧ S.2.1 ≤ (gV σ 27 0 (a1.toInt.toNat)).toInt ∧ ¬ AlJ σ (a1.toInt.toNat) S.2.1 (-1) (S.1 - 1) ∧ (gV τ 22 0 8).toInt = (gV σ 22 0 8).toInt) ∨ ((0 < S.1 ∧ ((0 ≤ a1.toInt ∧ a1.toInt ≤ 7) ∧ -999 ≤ a2.toInt ∧ a2.toInt ≤ 999 ∧ -999 ≤ a3.toInt ∧ a3.toInt ≤ 999 ∧ -1 ≤ a4.toInt)) ∧ 0 ≤ (gV σ 26 0 (a1.toInt.toNat)).toInt ∧ S.2.1 ≤ (gV σ 27 0 (a1.toInt.toNat)).toInt ∧ AlJ σ (a1.toInt.toNat) S.2.1 (-1) (S.1 - 1) ∧ (gV τ 22 0 8).toInt = 0))))) args s 0 0 (aG G)) 8 G 0 0 158 [some (.ref (G.1 22 0)), some (.int a1), some (.int a2), some (.int a3), some (.int a4), some (.int y5), some (.int y6), none] [] τ := by
    intro n
    induction n with
    | zero => intro τ y5 y6 iτ fτ b_a1 b_a2 b_a3 b_a4 b_y5 b_y6 v_SM n1 n2 nL hm; exact absurd hm (Nat.not_lt_zero _)
    | succ n ih158 =>
      intro τ y5 y6 iτ fτ b_a1 b_a2 b_a3 b_a4 b_y5 b_y6 v_SM n1 n2 nL hm158
      have J174 : ∀ (n : Nat) (τ : Sg) (y7 : Int32), Inv τ → Fr MS_X12_marksQ AS_X12_marksQ σ τ → IV a1 0 7 → IV a2 (-999) 999 → IV a3 (-999) 999 → IV a4 (-1) 2147483647 → IV y5 (-2147483648) 2147483647 → IV y6 0 127 → IV y7 0 7 → (SFm σ τ) → ((0 < S.1 ∧ ((0 ≤ a1.toInt ∧ a1.toInt ≤ 7) ∧ -999 ≤ a2.toInt ∧ a2.toInt ≤ 999 ∧ -999 ≤ a3.toInt ∧ a3.toInt ≤ 999 ∧ -1 ≤ a4.toInt) ∧ 0 ≤ (gV σ 26 0 (a1.toInt.toNat)).toInt ∧ S.2.1 ≤ (gV σ 27 0 (a1.toInt.toNat)).toInt)) → (((gV τ 23 0 2).toInt = S.2.1 ∧ (gV τ 23 0 0).toInt = S.1 ∧ 0 ≤ S.1 ∧ S.1 ≤ 32 ∧ S.2.1 ≤ 7)) → (AlJ σ (a1.toInt.toNat) S.2.1 (-1) (S.1 - 1)) → (7 - y7.toInt).toNat < n → MW p l e { frames := 2, cells := 0, slots := 0, locals := 46 } s m args below meth c (MQ below (QP G (PI fun r τ => Inv τ ∧ Fr MS_X12_marksQ AS_X12_marksQ σ τ ∧ IV r (-2147483648) 2147483647 ∧ (SFm σ τ ∧ ((S.1 ≤ 0 ∧ (gV τ 22 0 8).toInt = (gV σ 22 0 8).toInt) ∨ (0 < S.1 ∧ (a1.toInt < 0 ∨ 7 < a1.toInt ∨ a2.toInt < -999 ∨ 999 < a2.toInt ∨ a3.toInt < -999 ∨ 999 < a3.toInt ∨ a4.toInt < -1) ∧ (gV τ 22 0 8).toInt = (gV σ 22 0 8).toInt) ∨ ((0 < S.1 ∧ ((0 ≤ a1.toInt ∧ a1.toInt ≤ 7) ∧ -999 ≤ a2.toInt ∧ a2.toInt ≤ 999 ∧ -999 ≤ a3.toInt ∧ a3.toInt ≤ 999 ∧ -1 ≤ a4.toInt)) ∧ (gV σ 26 0 (a1.toInt.toNat)).toInt < 0 ∧ (gV τ 22 0 8).toInt = 1) ∨ ((0 < S.1 ∧ ((0 ≤ a1.toInt ∧ a1.toInt ≤ 7) ∧ -999 ≤ a2.toInt ∧ a2.toInt ≤ 999 ∧ -999 ≤ a3.toInt ∧ a3.toInt ≤ 999 ∧ -1 ≤ a4.toInt)) ∧ 0 ≤ (gV σ 26 0 (a1.toInt.toNat)).toInt ∧ (gV σ 27 0 (a1.toInt.toNat)).toInt < S.2.1 ∧ (gV τ 22 0 8).toInt = 2) ∨ ((0 < S.1 ∧ ((0 ≤ a1.toInt ∧ a1.toInt ≤ 7) ∧ -999 ≤ a2.toInt ∧ a2.toInt ≤ 999 ∧ -999 ≤ a3.toInt ∧ a3.toInt ≤ 999 ∧ -1 ≤ a4.toInt)) ∧ 0 ≤ (gV σ 26 0 (a1.toInt.toNat)).toInt ∧ S.2.1 ≤ (gV σ 27 0 (a1.toInt.toNat)).toInt ∧ ¬ AlJ σ (a1.toInt.toNat) S.2.1 (-1) (S.1 - 1) ∧ (gV τ 22 0 8).toInt = (gV σ 22 0 8).toInt) ∨ ((0 < S.1 ∧ ((0 ≤ a1.toInt ∧ a1.toInt ≤ 7) ∧ -999 ≤ a2.toInt ∧ a2.toInt ≤ 999 ∧ -999 ≤ a3.toInt ∧ a3.toInt ≤ 999 ∧ -1 ≤ a4.toInt)) ∧ 0 ≤ (gV σ 26 0 (a1.toInt.toNat)).toInt ∧ S.2.1 ≤ (gV σ 27 0 (a1.toInt.toNat)).toInt ∧ AlJ σ (a1.toInt.toNat) S.2.1 (-1) (S.1 - 1) ∧ (gV τ 22 0 8).toInt = 0))))) args s 0 0 (aG G)) 8 G 0 0 174 [some (.ref (G.1 22 0)), some (.int a1), some (.int a2), some (.int a3), some (.int a4), some (.int y5), some (.int y6), some (.int y7)] [] τ := by
        intro n
        induction n with
        | zero => intro τ y7 iτ fτ b_a1 b_a2 b_a3 b_a4 b_y5 b_y6 b_y7 v_SM n3 n4 nL hm; exact absurd hm (Nat.not_lt_zero _)
        | succ n ih174 =>
          intro τ y7 iτ fτ b_a1 b_a2 b_a3 b_a4 b_y5 b_y6 b_y7 v_SM n3 n4 nL hm174
          have u5 : IV (gV τ 23 0 2) 0 7 := iτ.1 23 0 2
          have u6 : IV (gV τ 27 0 (a1.toInt.toNat)) 0 40 := iτ.1 27 0 (a1.toInt.toNat)
          refine m_iload C dX12_marks_174 rfl ?_
          refine m_aload_n C dX12_marks_176 rfl rfl ?_
          refine g_22_0 C q4_116 dX12_marks_177 ?_
          refine m_iconst (v := 2) C dX12_marks_180 (by decide) ?_
          refine al_23 C kc_2 (by decide) kn_2 dX12_marks_181 ?_
          refine m_eqs (w := (gV τ 23 0 2)) rfl ?_
          refine m_icmp_ge (tgt := 228) C dX12_marks_182 (by decide) (fun c7 => ?_) (fun c7 => ?_)
          · have f8 : (gV τ 23 0 2).toInt ≤ y7.toInt := by
              have q : _ := c7
              simp only [ti_nle, ti_nlt, ti_le, ti_lt, ti_eq, ti_ne, Classical.not_not] at q
              omega
            refine m_aload_n C dX12_marks_228 rfl rfl ?_
            refine m_sipush (v := 200) C dX12_marks_229 (by decide) ?_
            refine m_iconst (v := 1) C dX12_marks_232 (by decide) ?_
            have q9 := kt_200
            have q10 := kt_1
            refine m_callV (n := 2) (ci := 11) (st := []) C (c_X12_leanOf l G τ (200) (1) iτ (iv_wk kc_200 (by decide)) (by omega)) (by decide) (by decide) rfl rfl rfl q5_82 q5_79 q5_81 q0_41 q1_7 (by decide +kernel) rfl (by decide) (by decide) rfl (Nat.le_of_ble_eq_true rfl) dX12_marks_233 ?_
            rintro _ τ11 ⟨x14, rfl, i12, f13, b15⟩
            have g16 : Fr MS_X12_marksQ AS_X12_marksQ σ τ11 := Fr.call (fτ) f13 (by decide)
            have v18 : SFm σ τ11 := v_SM.fr f13 (by simp) (by decide)
            show MW p l e _ s m args below meth c _ 8 G 0 0 236 [some (.ref (G.1 22 0)), some (.int a1), some (.int a2), some (.int a3), some (.int a4), some (.int y5), some (.int y6), some (.int y7)] [.int x14] τ11
            refine m_iload_n C dX12_marks_236 rfl rfl ?_
            refine m_icmp_ne (tgt := 269) C dX12_marks_237 (by decide) (fun c19 => ?_) (fun c19 => ?_)
            · have f20 : x14.toInt ≠ a2.toInt := by
                have q : _ := c19
                simp only [ti_nle, ti_nlt, ti_le, ti_lt, ti_eq, ti_ne, Classical.not_not] at q
                omega
              obtain ⟨x21, ex21⟩ : ∃ y : Int32, y = y6 + 1 := ⟨_, rfl⟩
              have tx21 : x21.toInt = y6.toInt + 1 := by rw [ex21, ti_addv b_y6 kc_1 (by decide), kt_1]
              have b22 : IV x21 1 128 := by rw [ex21]; exact iv_add b_y6 kc_1 (by decide)
              refine m_iinc (v := x21) (L1 := [some (.ref (G.1 22 0)), some (.int a1), some (.int a2), some (.int a3), some (.int a4), some (.int y5), some (.int x21), some (.int y7)]) C dX12_marks_269 rfl (by rw [ex21]; rfl) (by decide) rfl rfl ?_
              refine m_goto (tgt := 158) C dX12_marks_272 (by decide) ?_
              refine m_sub (L1 := [some (.ref (G.1 22 0)), some (.int a1), some (.int a2), some (.int a3), some (.int a4), some (.int y5), some (.int x21), none]) ⟨rfl, ⟨rfl, ⟨rfl, ⟨rfl, ⟨rfl, ⟨rfl, ⟨rfl, trivial⟩⟩⟩⟩⟩⟩⟩ ?_
              have q23 : (gV τ11 22 0 8).toInt = (gV τ 22 0 8).toInt := congrArg Int32.toInt (show (gV τ11 22 0 8) = (gV τ 22 0 8) from (show gV τ11 22 0 8 = (gV τ 22 0 8) from (f13.1 22 0 (8) (by decide) (by decide)).trans rfl))
              have q24 : (gV τ11 23 0 0).toInt = (gV τ 23 0 0).toInt := congrArg Int32.toInt (show (gV τ11 23 0 0) = (gV τ 23 0 0) from (show gV τ11 23 0 0 = (gV τ 23 0 0) from (f13.1 23 0 (0) (by decide) (by decide)).trans rfl))
              have q25 : (gV τ11 23 0 2).toInt = (gV τ 23 0 2).toInt := congrArg Int32.toInt (show (gV τ11 23 0 2) = (gV τ 23 0 2) from (show gV τ11 23 0 2 = (gV τ 23 0 2) from (f13.1 23 0 (2) (by decide) (by decide)).trans rfl))
              have q26 : (gV τ11 26 0 (a1.toInt.toNat)).toInt = (gV τ 26 0 (a1.toInt.toNat)).toInt := congrArg Int32.toInt (show (gV τ11 26 0 (a1.toInt.toNat)) = (gV τ 26 0 (a1.toInt.toNat)) from (show gV τ11 26 0 (a1.toInt.toNat) = (gV τ 26 0 (a1.toInt.toNat)) from (f13.1 26 0 ((a1.toInt.toNat)) (by simp) (by decide)).trans rfl))
              have q27 : (gV τ11 27 0 (a1.toInt.toNat)).toInt = (gV τ 27 0 (a1.toInt.toNat)).toInt := congrArg Int32.toInt (show (gV τ11 27 0 (a1.toInt.toNat)) = (gV τ 27 0 (a1.toInt.toNat)) from (show gV τ11 27 0 (a1.toInt.toNat) = (gV τ 27 0 (a1.toInt.toNat)) from (f13.1 27 0 ((a1.toInt.toNat)) (by simp) (by decide)).trans rfl))
              exact ih158 τ11 y5 x21 i12 g16 b_a1 b_a2 b_a3 b_a4 b_y5 (iv_wk b22 (by decide)) v18 (by omega) (by omega) nL (by have q := hm158; omega)
            · have f28 : x14.toInt = a2.toInt := by
                have q : _ := c19
                simp only [ti_nle, ti_nlt, ti_le, ti_lt, ti_eq, ti_ne, Classical.not_not] at q
                omega
              have b29 : IV x14 (-999) 999 := ⟨by have q1 := b15; have q2 := b_a2; omega, by have q1 := b15; have q2 := b_a2; omega⟩
              refine m_aload_n C dX12_marks_240 rfl rfl ?_
              refine m_sipush (v := 200) C dX12_marks_241 (by decide) ?_
              refine m_iconst (v := 0) C dX12_marks_244 (by decide) ?_
              have q30 : (gV τ11 22 0 8).toInt = (gV τ 22 0 8).toInt := congrArg Int32.toInt (show (gV τ11 22 0 8) = (gV τ 22 0 8) from (show gV τ11 22 0 8 = (gV τ 22 0 8) from (f13.1 22 0 (8) (by decide) (by decide)).trans rfl))
              have q31 : (gV τ11 23 0 0).toInt = (gV τ 23 0 0).toInt := congrArg Int32.toInt (show (gV τ11 23 0 0) = (gV τ 23 0 0) from (show gV τ11 23 0 0 = (gV τ 23 0 0) from (f13.1 23 0 (0) (by decide) (by decide)).trans rfl))
              have q32 : (gV τ11 23 0 2).toInt = (gV τ 23 0 2).toInt := congrArg Int32.toInt (show (gV τ11 23 0 2) = (gV τ 23 0 2) from (show gV τ11 23 0 2 = (gV τ 23 0 2) from (f13.1 23 0 (2) (by decide) (by decide)).trans rfl))
              have q33 : (gV τ11 26 0 (a1.toInt.toNat)).toInt = (gV τ 26 0 (a1.toInt.toNat)).toInt := congrArg Int32.toInt (show (gV τ11 26 0 (a1.toInt.toNat)) = (gV τ 26 0 (a1.toInt.toNat)) from (show gV τ11 26 0 (a1.toInt.toNat) = (gV τ 26 0 (a1.toInt.toNat)) from (f13.1 26 0 ((a1.toInt.toNat)) (by simp) (by decide)).trans rfl))
              have q34 : (gV τ11 27 0 (a1.toInt.toNat)).toInt = (gV τ 27 0 (a1.toInt.toNat)).toInt := congrArg Int32.toInt (show (gV τ11 27 0 (a1.toInt.toNat)) = (gV τ 27 0 (a1.toInt.toNat)) from (show gV τ11 27 0 (a1.toInt.toNat) = (gV τ 27 0 (a1.toInt.toNat)) from (f13.1 27 0 ((a1.toInt.toNat)) (by simp) (by decide)).trans rfl))
              have q35 := kt_200
              have q36 := kt_0
              refine m_callV (n := 2) (ci := 11) (st := []) C (c_X12_leanOf l G τ11 (200) (0) i12 (iv_wk kc_200 (by decide)) (by omega)) (by decide) (by decide) rfl rfl rfl q5_82 q5_79 q5_81 q0_41 q1_7 (by decide +kernel) rfl (by decide) (by decide) rfl (Nat.le_of_ble_eq_true rfl) dX12_marks_245 ?_
              rintro _ τ37 ⟨x40, rfl, i38, f39, b41⟩
              have g42 : Fr MS_X12_marksQ AS_X12_marksQ σ τ37 := Fr.call (g16) f39 (by decide)
              have v44 : SFm σ τ37 := v18.fr f39 (by simp) (by decide)
              show MW p l e _ s m args below meth c _ 8 G 0 0 248 [some (.ref (G.1 22 0)), some (.int a1), some (.int a2), some (.int a3), some (.int a4), some (.int y5), some (.int y6), some (.int y7)] [.int x40] τ37
              refine m_iload_n C dX12_marks_248 rfl rfl ?_
              refine m_icmp_ne (tgt := 269) C dX12_marks_249 (by decide) (fun c45 => ?_) (fun c45 => ?_)
              · have f46 : x40.toInt ≠ a3.toInt := by
                  have q : _ := c45
                  simp only [ti_nle, ti_nlt, ti_le, ti_lt, ti_eq, ti_ne, Classical.not_not] at q
                  omega
                obtain ⟨x47, ex47⟩ : ∃ y : Int32, y = y6 + 1 := ⟨_, rfl⟩
                have tx47 : x47.toInt = y6.toInt + 1 := by rw [ex47, ti_addv b_y6 kc_1 (by decide), kt_1]
                have b48 : IV x47 1 128 := by rw [ex47]; exact iv_add b_y6 kc_1 (by decide)
                refine m_iinc (v := x47) (L1 := [some (.ref (G.1 22 0)), some (.int a1), some (.int a2), some (.int a3), some (.int a4), some (.int y5), some (.int x47), some (.int y7)]) C dX12_marks_269 rfl (by rw [ex47]; rfl) (by decide) rfl rfl ?_
                refine m_goto (tgt := 158) C dX12_marks_272 (by decide) ?_
                refine m_sub (L1 := [some (.ref (G.1 22 0)), some (.int a1), some (.int a2), some (.int a3), some (.int a4), some (.int y5), some (.int x47), none]) ⟨rfl, ⟨rfl, ⟨rfl, ⟨rfl, ⟨rfl, ⟨rfl, ⟨rfl, trivial⟩⟩⟩⟩⟩⟩⟩ ?_
                have q49 : (gV τ37 22 0 8).toInt = (gV τ 22 0 8).toInt := congrArg Int32.toInt (show (gV τ37 22 0 8) = (gV τ 22 0 8) from (show gV τ37 22 0 8 = (gV τ 22 0 8) from (f39.1 22 0 (8) (by decide) (by decide)).trans (show gV τ11 22 0 8 = (gV τ 22 0 8) from (f13.1 22 0 (8) (by decide) (by decide)).trans rfl)))
                have q50 : (gV τ37 23 0 0).toInt = (gV τ 23 0 0).toInt := congrArg Int32.toInt (show (gV τ37 23 0 0) = (gV τ 23 0 0) from (show gV τ37 23 0 0 = (gV τ 23 0 0) from (f39.1 23 0 (0) (by decide) (by decide)).trans (show gV τ11 23 0 0 = (gV τ 23 0 0) from (f13.1 23 0 (0) (by decide) (by decide)).trans rfl)))
                have q51 : (gV τ37 23 0 2).toInt = (gV τ 23 0 2).toInt := congrArg Int32.toInt (show (gV τ37 23 0 2) = (gV τ 23 0 2) from (show gV τ37 23 0 2 = (gV τ 23 0 2) from (f39.1 23 0 (2) (by decide) (by decide)).trans (show gV τ11 23 0 2 = (gV τ 23 0 2) from (f13.1 23 0 (2) (by decide) (by decide)).trans rfl)))
                have q52 : (gV τ37 26 0 (a1.toInt.toNat)).toInt = (gV τ 26 0 (a1.toInt.toNat)).toInt := congrArg Int32.toInt (show (gV τ37 26 0 (a1.toInt.toNat)) = (gV τ 26 0 (a1.toInt.toNat)) from (show gV τ37 26 0 (a1.toInt.toNat) = (gV τ 26 0 (a1.toInt.toNat)) from (f39.1 26 0 ((a1.toInt.toNat)) (by simp) (by decide)).trans (show gV τ11 26 0 (a1.toInt.toNat) = (gV τ 26 0 (a1.toInt.toNat)) from (f13.1 26 0 ((a1.toInt.toNat)) (by simp) (by decide)).trans rfl)))
                have q53 : (gV τ37 27 0 (a1.toInt.toNat)).toInt = (gV τ 27 0 (a1.toInt.toNat)).toInt := congrArg Int32.toInt (show (gV τ37 27 0 (a1.toInt.toNat)) = (gV τ 27 0 (a1.toInt.toNat)) from (show gV τ37 27 0 (a1.toInt.toNat) = (gV τ 27 0 (a1.toInt.toNat)) from (f39.1 27 0 ((a1.toInt.toNat)) (by simp) (by decide)).trans (show gV τ11 27 0 (a1.toInt.toNat) = (gV τ 27 0 (a1.toInt.toNat)) from (f13.1 27 0 ((a1.toInt.toNat)) (by simp) (by decide)).trans rfl)))
                exact ih158 τ37 y5 x47 i38 g42 b_a1 b_a2 b_a3 b_a4 b_y5 (iv_wk b48 (by decide)) v44 (by omega) (by omega) nL (by have q := hm158; omega)
              · have f54 : x40.toInt = a3.toInt := by
                  have q : _ := c45
                  simp only [ti_nle, ti_nlt, ti_le, ti_lt, ti_eq, ti_ne, Classical.not_not] at q
                  omega
                have b55 : IV x40 (-999) 999 := ⟨by have q1 := b41; have q2 := b_a3; omega, by have q1 := b41; have q2 := b_a3; omega⟩
                refine m_iload C dX12_marks_252 rfl ?_
                refine m_iload C dX12_marks_254 rfl ?_
                refine m_icmp_ne (tgt := 266) C dX12_marks_256 (by decide) (fun c56 => ?_) (fun c56 => ?_)
                · have f57 : y5.toInt ≠ a4.toInt := by
                    have q : _ := c56
                    simp only [ti_nle, ti_nlt, ti_le, ti_lt, ti_eq, ti_ne, Classical.not_not] at q
                    omega
                  obtain ⟨x58, ex58⟩ : ∃ y : Int32, y = y5 + 1 := ⟨_, rfl⟩
                  refine m_iinc (v := x58) (L1 := [some (.ref (G.1 22 0)), some (.int a1), some (.int a2), some (.int a3), some (.int a4), some (.int x58), some (.int y6), some (.int y7)]) C dX12_marks_266 rfl (by rw [ex58]; rfl) (by decide) rfl rfl ?_
                  obtain ⟨x59, ex59⟩ : ∃ y : Int32, y = y6 + 1 := ⟨_, rfl⟩
                  have tx59 : x59.toInt = y6.toInt + 1 := by rw [ex59, ti_addv b_y6 kc_1 (by decide), kt_1]
                  have b60 : IV x59 1 128 := by rw [ex59]; exact iv_add b_y6 kc_1 (by decide)
                  refine m_iinc (v := x59) (L1 := [some (.ref (G.1 22 0)), some (.int a1), some (.int a2), some (.int a3), some (.int a4), some (.int x58), some (.int x59), some (.int y7)]) C dX12_marks_269 rfl (by rw [ex59]; rfl) (by decide) rfl rfl ?_
                  refine m_goto (tgt := 158) C dX12_marks_272 (by decide) ?_
                  refine m_sub (L1 := [some (.ref (G.1 22 0)), some (.int a1), some (.int a2), some (.int a3), some (.int a4), some (.int x58), some (.int x59), none]) ⟨rfl, ⟨rfl, ⟨rfl, ⟨rfl, ⟨rfl, ⟨rfl, ⟨rfl, trivial⟩⟩⟩⟩⟩⟩⟩ ?_
                  have q61 : (gV τ37 22 0 8).toInt = (gV τ 22 0 8).toInt := congrArg Int32.toInt (show (gV τ37 22 0 8) = (gV τ 22 0 8) from (show gV τ37 22 0 8 = (gV τ 22 0 8) from (f39.1 22 0 (8) (by decide) (by decide)).trans (show gV τ11 22 0 8 = (gV τ 22 0 8) from (f13.1 22 0 (8) (by decide) (by decide)).trans rfl)))
                  have q62 : (gV τ37 23 0 0).toInt = (gV τ 23 0 0).toInt := congrArg Int32.toInt (show (gV τ37 23 0 0) = (gV τ 23 0 0) from (show gV τ37 23 0 0 = (gV τ 23 0 0) from (f39.1 23 0 (0) (by decide) (by decide)).trans (show gV τ11 23 0 0 = (gV τ 23 0 0) from (f13.1 23 0 (0) (by decide) (by decide)).trans rfl)))
                  have q63 : (gV τ37 23 0 2).toInt = (gV τ 23 0 2).toInt := congrArg Int32.toInt (show (gV τ37 23 0 2) = (gV τ 23 0 2) from (show gV τ37 23 0 2 = (gV τ 23 0 2) from (f39.1 23 0 (2) (by decide) (by decide)).trans (show gV τ11 23 0 2 = (gV τ 23 0 2) from (f13.1 23 0 (2) (by decide) (by decide)).trans rfl)))
                  have q64 : (gV τ37 26 0 (a1.toInt.toNat)).toInt = (gV τ 26 0 (a1.toInt.toNat)).toInt := congrArg Int32.toInt (show (gV τ37 26 0 (a1.toInt.toNat)) = (gV τ 26 0 (a1.toInt.toNat)) from (show gV τ37 26 0 (a1.toInt.toNat) = (gV τ 26 0 (a1.toInt.toNat)) from (f39.1 26 0 ((a1.toInt.toNat)) (by simp) (by decide)).trans (show gV τ11 26 0 (a1.toInt.toNat) = (gV τ 26 0 (a1.toInt.toNat)) from (f13.1 26 0 ((a1.toInt.toNat)) (by simp) (by decide)).trans rfl)))
                  have q65 : (gV τ37 27 0 (a1.toInt.toNat)).toInt = (gV τ 27 0 (a1.toInt.toNat)).toInt := congrArg Int32.toInt (show (gV τ37 27 0 (a1.toInt.toNat)) = (gV τ 27 0 (a1.toInt.toNat)) from (show gV τ37 27 0 (a1.toInt.toNat) = (gV τ 27 0 (a1.toInt.toNat)) from (f39.1 27 0 ((a1.toInt.toNat)) (by simp) (by decide)).trans (show gV τ11 27 0 (a1.toInt.toNat) = (gV τ 27 0 (a1.toInt.toNat)) from (f13.1 27 0 ((a1.toInt.toNat)) (by simp) (by decide)).trans rfl)))
                  exact ih158 τ37 x58 x59 i38 g42 b_a1 b_a2 b_a3 b_a4 (iv_any x58) (iv_wk b60 (by decide)) v44 (by omega) (by omega) nL (by have q := hm158; omega)
                · have f66 : y5.toInt = a4.toInt := by
                    have q : _ := c56
                    simp only [ti_nle, ti_nlt, ti_le, ti_lt, ti_eq, ti_ne, Classical.not_not] at q
                    omega
                  have b67 : IV y5 (-1) 2147483647 := ⟨by have q1 := b_y5; have q2 := b_a4; omega, by have q1 := b_y5; have q2 := b_a4; omega⟩
                  refine m_aload_n C dX12_marks_259 rfl rfl ?_
                  refine m_iload C dX12_marks_260 rfl ?_
                  have q68 : (gV τ37 22 0 8).toInt = (gV τ 22 0 8).toInt := congrArg Int32.toInt (show (gV τ37 22 0 8) = (gV τ 22 0 8) from (show gV τ37 22 0 8 = (gV τ 22 0 8) from (f39.1 22 0 (8) (by decide) (by decide)).trans (show gV τ11 22 0 8 = (gV τ 22 0 8) from (f13.1 22 0 (8) (by decide) (by decide)).trans rfl)))
                  have q69 : (gV τ37 23 0 0).toInt = (gV τ 23 0 0).toInt := congrArg Int32.toInt (show (gV τ37 23 0 0) = (gV τ 23 0 0) from (show gV τ37 23 0 0 = (gV τ 23 0 0) from (f39.1 23 0 (0) (by decide) (by decide)).trans (show gV τ11 23 0 0 = (gV τ 23 0 0) from (f13.1 23 0 (0) (by decide) (by decide)).trans rfl)))
                  have q70 : (gV τ37 23 0 2).toInt = (gV τ 23 0 2).toInt := congrArg Int32.toInt (show (gV τ37 23 0 2) = (gV τ 23 0 2) from (show gV τ37 23 0 2 = (gV τ 23 0 2) from (f39.1 23 0 (2) (by decide) (by decide)).trans (show gV τ11 23 0 2 = (gV τ 23 0 2) from (f13.1 23 0 (2) (by decide) (by decide)).trans rfl)))
                  have q71 : (gV τ37 26 0 (a1.toInt.toNat)).toInt = (gV τ 26 0 (a1.toInt.toNat)).toInt := congrArg Int32.toInt (show (gV τ37 26 0 (a1.toInt.toNat)) = (gV τ 26 0 (a1.toInt.toNat)) from (show gV τ37 26 0 (a1.toInt.toNat) = (gV τ 26 0 (a1.toInt.toNat)) from (f39.1 26 0 ((a1.toInt.toNat)) (by simp) (by decide)).trans (show gV τ11 26 0 (a1.toInt.toNat) = (gV τ 26 0 (a1.toInt.toNat)) from (f13.1 26 0 ((a1.toInt.toNat)) (by simp) (by decide)).trans rfl)))
                  have q72 : (gV τ37 27 0 (a1.toInt.toNat)).toInt = (gV τ 27 0 (a1.toInt.toNat)).toInt := congrArg Int32.toInt (show (gV τ37 27 0 (a1.toInt.toNat)) = (gV τ 27 0 (a1.toInt.toNat)) from (show gV τ37 27 0 (a1.toInt.toNat) = (gV τ 27 0 (a1.toInt.toNat)) from (f39.1 27 0 ((a1.toInt.toNat)) (by simp) (by decide)).trans (show gV τ11 27 0 (a1.toInt.toNat) = (gV τ 27 0 (a1.toInt.toNat)) from (f13.1 27 0 ((a1.toInt.toNat)) (by simp) (by decide)).trans rfl)))
                  refine m_callV (n := 1) (ci := 11) (st := []) C (c_X12_fineQ l G τ37 (y6) i38 ) (by decide) (by decide) rfl rfl rfl q4_201 q4_198 q4_200 q0_27 q1_7 (by decide +kernel) rfl (by decide) (by decide) rfl (Nat.le_of_ble_eq_true rfl) dX12_marks_262 ?_
                  rintro _ τ73 ⟨x76, rfl, i74, f75, b77, h79⟩
                  have g78 : Fr MS_X12_marksQ AS_X12_marksQ σ τ73 := Fr.call (g42) f75 (by decide)
                  have v80 : SFm σ τ73 := v44.fr f75 (by simp) (by decide)
                  have q81 : (gV τ73 23 0 0).toInt = (gV τ 23 0 0).toInt := congrArg Int32.toInt (show (gV τ73 23 0 0) = (gV τ 23 0 0) from (show gV τ73 23 0 0 = (gV τ 23 0 0) from (f75.1 23 0 (0) (by decide) (by decide)).trans (show gV τ37 23 0 0 = (gV τ 23 0 0) from (f39.1 23 0 (0) (by decide) (by decide)).trans (show gV τ11 23 0 0 = (gV τ 23 0 0) from (f13.1 23 0 (0) (by decide) (by decide)).trans rfl))))
                  have q82 : (gV τ73 23 0 2).toInt = (gV τ 23 0 2).toInt := congrArg Int32.toInt (show (gV τ73 23 0 2) = (gV τ 23 0 2) from (show gV τ73 23 0 2 = (gV τ 23 0 2) from (f75.1 23 0 (2) (by decide) (by decide)).trans (show gV τ37 23 0 2 = (gV τ 23 0 2) from (f39.1 23 0 (2) (by decide) (by decide)).trans (show gV τ11 23 0 2 = (gV τ 23 0 2) from (f13.1 23 0 (2) (by decide) (by decide)).trans rfl))))
                  have q83 : (gV τ73 26 0 (a1.toInt.toNat)).toInt = (gV τ 26 0 (a1.toInt.toNat)).toInt := congrArg Int32.toInt (show (gV τ73 26 0 (a1.toInt.toNat)) = (gV τ 26 0 (a1.toInt.toNat)) from (show gV τ73 26 0 (a1.toInt.toNat) = (gV τ 26 0 (a1.toInt.toNat)) from (f75.1 26 0 ((a1.toInt.toNat)) (by simp) (by decide)).trans (show gV τ37 26 0 (a1.toInt.toNat) = (gV τ 26 0 (a1.toInt.toNat)) from (f39.1 26 0 ((a1.toInt.toNat)) (by simp) (by decide)).trans (show gV τ11 26 0 (a1.toInt.toNat) = (gV τ 26 0 (a1.toInt.toNat)) from (f13.1 26 0 ((a1.toInt.toNat)) (by simp) (by decide)).trans rfl))))
                  have q84 : (gV τ73 27 0 (a1.toInt.toNat)).toInt = (gV τ 27 0 (a1.toInt.toNat)).toInt := congrArg Int32.toInt (show (gV τ73 27 0 (a1.toInt.toNat)) = (gV τ 27 0 (a1.toInt.toNat)) from (show gV τ73 27 0 (a1.toInt.toNat) = (gV τ 27 0 (a1.toInt.toNat)) from (f75.1 27 0 ((a1.toInt.toNat)) (by simp) (by decide)).trans (show gV τ37 27 0 (a1.toInt.toNat) = (gV τ 27 0 (a1.toInt.toNat)) from (f39.1 27 0 ((a1.toInt.toNat)) (by simp) (by decide)).trans (show gV τ11 27 0 (a1.toInt.toNat) = (gV τ 27 0 (a1.toInt.toNat)) from (f13.1 27 0 ((a1.toInt.toNat)) (by simp) (by decide)).trans rfl))))
                  show MW p l e _ s m args below meth c _ 8 G 0 0 265 [some (.ref (G.1 22 0)), some (.int a1), some (.int a2), some (.int a3), some (.int a4), some (.int y5), some (.int y6), some (.int y7)] [.int x76] τ73
                  exact m_iret C hr hlk (by decide) (by decide) dX12_marks_265 ⟨_, rfl, i74, g78, b77, ⟨v80, (Or.inr (Or.inr (Or.inr (Or.inr (Or.inr (⟨by omega, by omega, by omega, nL, by omega⟩))))))⟩⟩
          · have f85 : y7.toInt < (gV τ 23 0 2).toInt := by
              have q : _ := c7
              simp only [ti_nle, ti_nlt, ti_le, ti_lt, ti_eq, ti_ne, Classical.not_not] at q
              omega
            have b86 : IV y7 0 6 := ⟨by have q1 := b_y7; have q2 := u5; omega, by have q1 := b_y7; have q2 := u5; omega⟩
            have b87 : IV (gV τ 23 0 2) 1 7 := ⟨by have q1 := b_y7; have q2 := u5; omega, by have q1 := b_y7; have q2 := u5; omega⟩
            refine m_aload_n C dX12_marks_185 rfl rfl ?_
            refine g_22_0 C q4_116 dX12_marks_186 ?_
            refine m_sipush (v := 224) C dX12_marks_189 (by decide) ?_
            refine m_iload C dX12_marks_192 rfl ?_
            refine m_iadd C dX12_marks_194 ?_
            refine m_topi (fun x88 ex88 => ?_)
            have tx88 : x88.toInt = 224 + y7.toInt := by rw [ex88, ti_addv kc_224 b86 (by decide), kt_224]
            have b89 : IV x88 224 230 := by rw [ex88]; exact iv_add kc_224 b86 (by decide)
            refine m_iload C dX12_marks_195 rfl ?_
            refine m_iload C dX12_marks_197 rfl ?_
            refine m_callS (n := 2) (st := [.int x88, .ref (G.1 23 0)]) C (c_X12_has l G τ (y6) (y7) iτ ) q5_142 q5_140 q5_141 q1_7 (by decide +kernel) rfl (by decide) (by decide) rfl (Nat.le_of_ble_eq_true rfl) dX12_marks_199 ?_
            rintro _ τ90 ⟨x93, rfl, i91, f92, b94⟩
            have g95 : Fr MS_X12_marksQ AS_X12_marksQ σ τ90 := Fr.call (fτ) f92 (by decide)
            have v97 : SFm σ τ90 := v_SM.fr f92 (by simp) (by decide)
            show MW p l e _ s m args below meth c _ 8 G 0 0 202 [some (.ref (G.1 22 0)), some (.int a1), some (.int a2), some (.int a3), some (.int a4), some (.int y5), some (.int y6), some (.int y7)] [.int x93, .int x88, .ref (G.1 23 0)] τ90
            refine m_if_eq (tgt := 220) C dX12_marks_202 (by decide) (fun c98 => ?_) (fun c98 => ?_)
            · have f99 : x93.toInt = 0 := by
                have q : _ := c98
                simp only [ti_nle, ti_nlt, ti_le, ti_lt, ti_eq, ti_ne, Classical.not_not, kt_0] at q
                omega
              have b100 : IV x93 0 0 := ⟨by have q1 := b94; have q2 := kc_0; omega, by have q1 := b94; have q2 := kc_0; omega⟩
              refine m_iconst (v := (-1)) C dX12_marks_220 (by decide) ?_
              refine as_23 C b89 (by decide) rfl dX12_marks_221 ?_
              refine m_tops (fun τ101 eτ101 => ?_)
              have i102 : Inv τ101 := eτ101 ▸ Inv.putW i91 (by omega)
              have f103 : Fr MS_X12_marksQ AS_X12_marksQ σ τ101 := eτ101 ▸ Fr.put (g95) (Or.inr (by decide))
              have v104 : SFm σ τ101 := v97.put eτ101 (by omega)
              obtain ⟨x105, ex105⟩ : ∃ y : Int32, y = y7 + 1 := ⟨_, rfl⟩
              have tx105 : x105.toInt = y7.toInt + 1 := by rw [ex105, ti_addv b86 kc_1 (by decide), kt_1]
              have b106 : IV x105 1 7 := by rw [ex105]; exact iv_add b86 kc_1 (by decide)
              refine m_iinc (v := x105) (L1 := [some (.ref (G.1 22 0)), some (.int a1), some (.int a2), some (.int a3), some (.int a4), some (.int y5), some (.int y6), some (.int x105)]) C dX12_marks_222 rfl (by rw [ex105]; rfl) (by decide) rfl rfl ?_
              refine m_goto (tgt := 174) C dX12_marks_225 (by decide) ?_
              have q107 : (gV τ101 22 0 8).toInt = (gV τ 22 0 8).toInt := congrArg Int32.toInt (show (gV τ101 22 0 8) = (gV τ 22 0 8) from (show gV τ101 22 0 8 = (gV τ 22 0 8) from gV_put eτ101 (show gV τ90 22 0 8 = (gV τ 22 0 8) from (f92.1 22 0 (8) (by decide) (by decide)).trans rfl)))
              have q108 : (gV τ101 23 0 0).toInt = (gV τ 23 0 0).toInt := congrArg Int32.toInt (show (gV τ101 23 0 0) = (gV τ 23 0 0) from (show gV τ101 23 0 0 = (gV τ 23 0 0) from (gV_putn eτ101 (Or.inr (Or.inr (by omega)))).trans (show gV τ90 23 0 0 = (gV τ 23 0 0) from (f92.1 23 0 (0) (by decide) (by decide)).trans rfl)))
              have q109 : (gV τ101 23 0 2).toInt = (gV τ 23 0 2).toInt := congrArg Int32.toInt (show (gV τ101 23 0 2) = (gV τ 23 0 2) from (show gV τ101 23 0 2 = (gV τ 23 0 2) from (gV_putn eτ101 (Or.inr (Or.inr (by omega)))).trans (show gV τ90 23 0 2 = (gV τ 23 0 2) from (f92.1 23 0 (2) (by decide) (by decide)).trans rfl)))
              have q110 : (gV τ101 26 0 (a1.toInt.toNat)).toInt = (gV τ 26 0 (a1.toInt.toNat)).toInt := congrArg Int32.toInt (show (gV τ101 26 0 (a1.toInt.toNat)) = (gV τ 26 0 (a1.toInt.toNat)) from (show gV τ101 26 0 (a1.toInt.toNat) = (gV τ 26 0 (a1.toInt.toNat)) from gV_put eτ101 (show gV τ90 26 0 (a1.toInt.toNat) = (gV τ 26 0 (a1.toInt.toNat)) from (f92.1 26 0 ((a1.toInt.toNat)) (by simp) (by decide)).trans rfl)))
              have q111 : (gV τ101 27 0 (a1.toInt.toNat)).toInt = (gV τ 27 0 (a1.toInt.toNat)).toInt := congrArg Int32.toInt (show (gV τ101 27 0 (a1.toInt.toNat)) = (gV τ 27 0 (a1.toInt.toNat)) from (show gV τ101 27 0 (a1.toInt.toNat) = (gV τ 27 0 (a1.toInt.toNat)) from gV_put eτ101 (show gV τ90 27 0 (a1.toInt.toNat) = (gV τ 27 0 (a1.toInt.toNat)) from (f92.1 27 0 ((a1.toInt.toNat)) (by simp) (by decide)).trans rfl)))
              exact ih174 τ101 x105 i102 f103 b_a1 b_a2 b_a3 b_a4 b_y5 b_y6 (iv_wk b106 (by decide)) v104 (by omega) (by omega) nL (by have q := hm174; omega)
            · have f112 : x93.toInt ≠ 0 := by
                have q : _ := c98
                simp only [ti_nle, ti_nlt, ti_le, ti_lt, ti_eq, ti_ne, Classical.not_not, kt_0] at q
                omega
              have b113 : IV x93 1 1 := ⟨by have q1 := b94; have q2 := kc_0; omega, by have q1 := b94; have q2 := kc_0; omega⟩
              refine m_aload_n C dX12_marks_205 rfl rfl ?_
              refine g_22_2 C q4_118 dX12_marks_206 ?_
              refine m_bipush (v := 40) C dX12_marks_209 (by decide) ?_
              refine m_iload_n C dX12_marks_211 rfl rfl ?_
              refine m_imul C dX12_marks_212 ?_
              refine m_topi (fun x114 ex114 => ?_)
              have tx114 : x114.toInt = 40 * a1.toInt := by rw [ex114, ti_mulv kc_40 b_a1 (by decide), kt_40]
              have b115 : IV x114 0 280 := by rw [ex114]; exact iv_mul kc_40 b_a1 (by decide)
              refine m_iload C dX12_marks_213 rfl ?_
              refine m_iadd C dX12_marks_215 ?_
              refine m_topi (fun x116 ex116 => ?_)
              have tx116 : x116.toInt = x114.toInt + y7.toInt := by rw [ex116, ti_addv b115 b86 (by decide)]
              have b117 : IV x116 0 286 := by rw [ex116]; exact iv_add b115 b86 (by decide)
              refine al_25 C b117 (by decide) rfl dX12_marks_216 ?_
              refine m_topi (fun x118 ex118 => ?_)
              refine m_goto (tgt := 221) C dX12_marks_217 (by decide) ?_
              refine as_23 C b89 (by decide) rfl dX12_marks_221 ?_
              refine m_tops (fun τ119 eτ119 => ?_)
              have i120 : Inv τ119 := eτ119 ▸ Inv.putW i91 (by omega)
              have f121 : Fr MS_X12_marksQ AS_X12_marksQ σ τ119 := eτ119 ▸ Fr.put (g95) (Or.inr (by decide))
              have v122 : SFm σ τ119 := v97.put eτ119 (by omega)
              obtain ⟨x123, ex123⟩ : ∃ y : Int32, y = y7 + 1 := ⟨_, rfl⟩
              have tx123 : x123.toInt = y7.toInt + 1 := by rw [ex123, ti_addv b86 kc_1 (by decide), kt_1]
              have b124 : IV x123 1 7 := by rw [ex123]; exact iv_add b86 kc_1 (by decide)
              refine m_iinc (v := x123) (L1 := [some (.ref (G.1 22 0)), some (.int a1), some (.int a2), some (.int a3), some (.int a4), some (.int y5), some (.int y6), some (.int x123)]) C dX12_marks_222 rfl (by rw [ex123]; rfl) (by decide) rfl rfl ?_
              refine m_goto (tgt := 174) C dX12_marks_225 (by decide) ?_
              have q125 : (gV τ119 22 0 8).toInt = (gV τ 22 0 8).toInt := congrArg Int32.toInt (show (gV τ119 22 0 8) = (gV τ 22 0 8) from (show gV τ119 22 0 8 = (gV τ 22 0 8) from gV_put eτ119 (show gV τ90 22 0 8 = (gV τ 22 0 8) from (f92.1 22 0 (8) (by decide) (by decide)).trans rfl)))
              have q126 : (gV τ119 23 0 0).toInt = (gV τ 23 0 0).toInt := congrArg Int32.toInt (show (gV τ119 23 0 0) = (gV τ 23 0 0) from (show gV τ119 23 0 0 = (gV τ 23 0 0) from (gV_putn eτ119 (Or.inr (Or.inr (by omega)))).trans (show gV τ90 23 0 0 = (gV τ 23 0 0) from (f92.1 23 0 (0) (by decide) (by decide)).trans rfl)))
              have q127 : (gV τ119 23 0 2).toInt = (gV τ 23 0 2).toInt := congrArg Int32.toInt (show (gV τ119 23 0 2) = (gV τ 23 0 2) from (show gV τ119 23 0 2 = (gV τ 23 0 2) from (gV_putn eτ119 (Or.inr (Or.inr (by omega)))).trans (show gV τ90 23 0 2 = (gV τ 23 0 2) from (f92.1 23 0 (2) (by decide) (by decide)).trans rfl)))
              have q128 : (gV τ119 26 0 (a1.toInt.toNat)).toInt = (gV τ 26 0 (a1.toInt.toNat)).toInt := congrArg Int32.toInt (show (gV τ119 26 0 (a1.toInt.toNat)) = (gV τ 26 0 (a1.toInt.toNat)) from (show gV τ119 26 0 (a1.toInt.toNat) = (gV τ 26 0 (a1.toInt.toNat)) from gV_put eτ119 (show gV τ90 26 0 (a1.toInt.toNat) = (gV τ 26 0 (a1.toInt.toNat)) from (f92.1 26 0 ((a1.toInt.toNat)) (by simp) (by decide)).trans rfl)))
              have q129 : (gV τ119 27 0 (a1.toInt.toNat)).toInt = (gV τ 27 0 (a1.toInt.toNat)).toInt := congrArg Int32.toInt (show (gV τ119 27 0 (a1.toInt.toNat)) = (gV τ 27 0 (a1.toInt.toNat)) from (show gV τ119 27 0 (a1.toInt.toNat) = (gV τ 27 0 (a1.toInt.toNat)) from gV_put eτ119 (show gV τ90 27 0 (a1.toInt.toNat) = (gV τ 27 0 (a1.toInt.toNat)) from (f92.1 27 0 ((a1.toInt.toNat)) (by simp) (by decide)).trans rfl)))
              exact ih174 τ119 x123 i120 f121 b_a1 b_a2 b_a3 b_a4 b_y5 b_y6 (iv_wk b124 (by decide)) v122 (by omega) (by omega) nL (by have q := hm174; omega)
      have u130 : IV (gV τ 23 0 2) 0 7 := iτ.1 23 0 2
      have u131 : IV (gV τ 27 0 (a1.toInt.toNat)) 0 40 := iτ.1 27 0 (a1.toInt.toNat)
      refine m_iload C dX12_marks_158 rfl ?_
      refine m_iconst (v := 1) C dX12_marks_160 (by decide) ?_
      refine m_aload_n C dX12_marks_161 rfl rfl ?_
      refine g_22_0 C q4_116 dX12_marks_162 ?_
      refine m_iconst (v := 2) C dX12_marks_165 (by decide) ?_
      refine al_23 C kc_2 (by decide) kn_2 dX12_marks_166 ?_
      refine m_eqs (w := (gV τ 23 0 2)) rfl ?_
      refine m_ishl C dX12_marks_167 ?_
      refine m_topi (fun x132 ex132 => ?_)
      have b133 : IV x132 1 128 := by rw [ex132]; exact iv_shl1 u130 (by decide)
      refine m_icmp_ge (tgt := 275) C dX12_marks_168 (by decide) (fun c134 => ?_) (fun c134 => ?_)
      · have f135 : x132.toInt ≤ y6.toInt := by
          have q : _ := c134
          simp only [ti_nle, ti_nlt, ti_le, ti_lt, ti_eq, ti_ne, Classical.not_not] at q
          omega
        have b136 : IV y6 1 128 := ⟨by have q1 := b133; have q2 := b_y6; omega, by have q1 := b133; have q2 := b_y6; omega⟩
        refine m_aload_n C dX12_marks_275 rfl rfl ?_
        refine m_iload C dX12_marks_276 rfl ?_
        refine m_if_ge (tgt := 286) C dX12_marks_278 (by decide) (fun c137 => ?_) (fun c137 => ?_)
        · have f138 : 0 ≤ a4.toInt := by
            have q : _ := c137
            simp only [ti_nle, ti_nlt, ti_le, ti_lt, ti_eq, ti_ne, Classical.not_not, kt_0] at q
            omega
          have b139 : IV a4 0 2147483647 := ⟨by have q1 := kc_0; have q2 := b_a4; omega, by have q1 := kc_0; have q2 := b_a4; omega⟩
          refine m_ldc (v := (-1000000)) C dX12_marks_286 q5_70 ?_
          have q140 := kt_m1000000
          refine m_callV (n := 1) (ci := 11) (st := []) C (c_X12_fineQ l G τ ((-1000000)) iτ ) (by decide) (by decide) rfl rfl rfl q4_201 q4_198 q4_200 q0_27 q1_7 (by decide +kernel) rfl (by decide) (by decide) rfl (Nat.le_of_ble_eq_true rfl) dX12_marks_288 ?_
          rintro _ τ141 ⟨x144, rfl, i142, f143, b145, h147⟩
          have g146 : Fr MS_X12_marksQ AS_X12_marksQ σ τ141 := Fr.call (fτ) f143 (by decide)
          have v148 : SFm σ τ141 := v_SM.fr f143 (by simp) (by decide)
          have q149 : (gV τ141 23 0 0).toInt = (gV τ 23 0 0).toInt := congrArg Int32.toInt (show (gV τ141 23 0 0) = (gV τ 23 0 0) from (show gV τ141 23 0 0 = (gV τ 23 0 0) from (f143.1 23 0 (0) (by decide) (by decide)).trans rfl))
          have q150 : (gV τ141 23 0 2).toInt = (gV τ 23 0 2).toInt := congrArg Int32.toInt (show (gV τ141 23 0 2) = (gV τ 23 0 2) from (show gV τ141 23 0 2 = (gV τ 23 0 2) from (f143.1 23 0 (2) (by decide) (by decide)).trans rfl))
          have q151 : (gV τ141 26 0 (a1.toInt.toNat)).toInt = (gV τ 26 0 (a1.toInt.toNat)).toInt := congrArg Int32.toInt (show (gV τ141 26 0 (a1.toInt.toNat)) = (gV τ 26 0 (a1.toInt.toNat)) from (show gV τ141 26 0 (a1.toInt.toNat) = (gV τ 26 0 (a1.toInt.toNat)) from (f143.1 26 0 ((a1.toInt.toNat)) (by simp) (by decide)).trans rfl))
          have q152 : (gV τ141 27 0 (a1.toInt.toNat)).toInt = (gV τ 27 0 (a1.toInt.toNat)).toInt := congrArg Int32.toInt (show (gV τ141 27 0 (a1.toInt.toNat)) = (gV τ 27 0 (a1.toInt.toNat)) from (show gV τ141 27 0 (a1.toInt.toNat) = (gV τ 27 0 (a1.toInt.toNat)) from (f143.1 27 0 ((a1.toInt.toNat)) (by simp) (by decide)).trans rfl))
          have q153 := kt_m1000000
          show MW p l e _ s m args below meth c _ 8 G 0 0 291 [some (.ref (G.1 22 0)), some (.int a1), some (.int a2), some (.int a3), some (.int a4), some (.int y5), some (.int y6), none] [.int x144] τ141
          exact m_iret C hr hlk (by decide) (by decide) dX12_marks_291 ⟨_, rfl, i142, g146, b145, ⟨v148, (Or.inr (Or.inr (Or.inr (Or.inr (Or.inr (⟨by omega, by omega, by omega, nL, by omega⟩))))))⟩⟩
        · have f154 : a4.toInt < 0 := by
            have q : _ := c137
            simp only [ti_nle, ti_nlt, ti_le, ti_lt, ti_eq, ti_ne, Classical.not_not, kt_0] at q
            omega
          have b155 : IV a4 (-1) (-1) := ⟨by have q1 := b_a4; have q2 := kc_0; omega, by have q1 := b_a4; have q2 := kc_0; omega⟩
          refine m_iload C dX12_marks_281 rfl ?_
          refine m_goto (tgt := 288) C dX12_marks_283 (by decide) ?_
          refine m_callV (n := 1) (ci := 11) (st := []) C (c_X12_fineQ l G τ (y5) iτ ) (by decide) (by decide) rfl rfl rfl q4_201 q4_198 q4_200 q0_27 q1_7 (by decide +kernel) rfl (by decide) (by decide) rfl (Nat.le_of_ble_eq_true rfl) dX12_marks_288 ?_
          rintro _ τ156 ⟨x159, rfl, i157, f158, b160, h162⟩
          have g161 : Fr MS_X12_marksQ AS_X12_marksQ σ τ156 := Fr.call (fτ) f158 (by decide)
          have v163 : SFm σ τ156 := v_SM.fr f158 (by simp) (by decide)
          have q164 : (gV τ156 23 0 0).toInt = (gV τ 23 0 0).toInt := congrArg Int32.toInt (show (gV τ156 23 0 0) = (gV τ 23 0 0) from (show gV τ156 23 0 0 = (gV τ 23 0 0) from (f158.1 23 0 (0) (by decide) (by decide)).trans rfl))
          have q165 : (gV τ156 23 0 2).toInt = (gV τ 23 0 2).toInt := congrArg Int32.toInt (show (gV τ156 23 0 2) = (gV τ 23 0 2) from (show gV τ156 23 0 2 = (gV τ 23 0 2) from (f158.1 23 0 (2) (by decide) (by decide)).trans rfl))
          have q166 : (gV τ156 26 0 (a1.toInt.toNat)).toInt = (gV τ 26 0 (a1.toInt.toNat)).toInt := congrArg Int32.toInt (show (gV τ156 26 0 (a1.toInt.toNat)) = (gV τ 26 0 (a1.toInt.toNat)) from (show gV τ156 26 0 (a1.toInt.toNat) = (gV τ 26 0 (a1.toInt.toNat)) from (f158.1 26 0 ((a1.toInt.toNat)) (by simp) (by decide)).trans rfl))
          have q167 : (gV τ156 27 0 (a1.toInt.toNat)).toInt = (gV τ 27 0 (a1.toInt.toNat)).toInt := congrArg Int32.toInt (show (gV τ156 27 0 (a1.toInt.toNat)) = (gV τ 27 0 (a1.toInt.toNat)) from (show gV τ156 27 0 (a1.toInt.toNat) = (gV τ 27 0 (a1.toInt.toNat)) from (f158.1 27 0 ((a1.toInt.toNat)) (by simp) (by decide)).trans rfl))
          show MW p l e _ s m args below meth c _ 8 G 0 0 291 [some (.ref (G.1 22 0)), some (.int a1), some (.int a2), some (.int a3), some (.int a4), some (.int y5), some (.int y6), none] [.int x159] τ156
          exact m_iret C hr hlk (by decide) (by decide) dX12_marks_291 ⟨_, rfl, i157, g161, b160, ⟨v163, (Or.inr (Or.inr (Or.inr (Or.inr (Or.inr (⟨by omega, by omega, by omega, nL, by omega⟩))))))⟩⟩
      · have f168 : y6.toInt < x132.toInt := by
          have q : _ := c134
          simp only [ti_nle, ti_nlt, ti_le, ti_lt, ti_eq, ti_ne, Classical.not_not] at q
          omega
        have b169 : IV y6 0 127 := ⟨by have q1 := b_y6; have q2 := b133; omega, by have q1 := b_y6; have q2 := b133; omega⟩
        refine m_iconst (v := 0) C dX12_marks_171 (by decide) ?_
        refine m_istore (L1 := [some (.ref (G.1 22 0)), some (.int a1), some (.int a2), some (.int a3), some (.int a4), some (.int y5), some (.int y6), some (.int 0)]) C dX12_marks_172 (by decide) rfl rfl ?_
        exact J174 ((7 - (0 : Int32).toInt).toNat + 1) τ 0 iτ fτ b_a1 b_a2 b_a3 b_a4 b_y5 b169 (iv_wk kc_0 (by decide)) v_SM (by omega) (by omega) nL (Nat.lt_succ_self _)
  have J93 : ∀ (n : Nat) (τ : Sg) (y5 : Int32), Inv τ → Fr MS_X12_marksQ AS_X12_marksQ σ τ → IV a1 0 7 → IV a2 (-999) 999 → IV a3 (-999) 999 → IV a4 (-1) 2147483647 → IV y5 0 7 → (SFm σ τ) → ((0 < S.1 ∧ ((0 ≤ a1.toInt ∧ a1.toInt ≤ 7) ∧ -999 ≤ a2.toInt ∧ a2.toInt ≤ 999 ∧ -999 ≤ a3.toInt ∧ a3.toInt ≤ 999 ∧ -1 ≤ a4.toInt) ∧ 0 ≤ (gV σ 26 0 (a1.toInt.toNat)).toInt ∧ S.2.1 ≤ (gV σ 27 0 (a1.toInt.toNat)).toInt)) → (((gV τ 23 0 2).toInt = S.2.1 ∧ (gV τ 23 0 0).toInt = S.1 ∧ 0 ≤ S.1 ∧ S.1 ≤ 32 ∧ S.2.1 ≤ 7)) → ((gV τ 22 0 8).toInt = (gV σ 22 0 8).toInt) → (AlJ σ (a1.toInt.toNat) y5.toInt (-1) (S.1 - 1)) → (7 - y5.toInt).toNat < n → MW p l e { frames := 2, cells := 0, slots := 0, locals := 46 } s m args below meth c (MQ below (QP G (PI fun r τ => Inv τ ∧ Fr MS_X12_marksQ AS_X12_marksQ σ τ ∧ IV r (-2147483648) 2147483647 ∧ (SFm σ τ ∧ ((S.1 ≤ 0 ∧ (gV τ 22 0 8).toInt = (gV σ 22 0 8).toInt) ∨ (0 < S.1 ∧ (a1.toInt < 0 ∨ 7 < a1.toInt ∨ a2.toInt < -999 ∨ 999 < a2.toInt ∨ a3.toInt < -999 ∨ 999 < a3.toInt ∨ a4.toInt < -1) ∧ (gV τ 22 0 8).toInt = (gV σ 22 0 8).toInt) ∨ ((0 < S.1 ∧ ((0 ≤ a1.toInt ∧ a1.toInt ≤ 7) ∧ -999 ≤ a2.toInt ∧ a2.toInt ≤ 999 ∧ -999 ≤ a3.toInt ∧ a3.toInt ≤ 999 ∧ -1 ≤ a4.toInt)) ∧ (gV σ 26 0 (a1.toInt.toNat)).toInt < 0 ∧ (gV τ 22 0 8).toInt = 1) ∨ ((0 < S.1 ∧ ((0 ≤ a1.toInt ∧ a1.toInt ≤ 7) ∧ -999 ≤ a2.toInt ∧ a2.toInt ≤ 999 ∧ -999 ≤ a3.toInt ∧ a3.toInt ≤ 999 ∧ -1 ≤ a4.toInt)) ∧ 0 ≤ (gV σ 26 0 (a1.toInt.toNat)).toInt ∧ (gV σ 27 0 (a1.toInt.toNat)).toInt < S.2.1 ∧ (gV τ 22 0 8).toInt = 2) ∨ ((0 < S.1 ∧ ((0 ≤ a1.toInt ∧ a1.toInt ≤ 7) ∧ -999 ≤ a2.toInt ∧ a2.toInt ≤ 999 ∧ -999 ≤ a3.toInt ∧ a3.toInt ≤ 999 ∧ -1 ≤ a4.toInt)) ∧ 0 ≤ (gV σ 26 0 (a1.toInt.toNat)).toInt ∧ S.2.1 ≤ (gV σ 27 0 (a1.toInt.toNat)).toInt ∧ ¬ AlJ σ (a1.toInt.toNat) S.2.1 (-1) (S.1 - 1) ∧ (gV τ 22 0 8).toInt = (gV σ 22 0 8).toInt) ∨ ((0 < S.1 ∧ ((0 ≤ a1.toInt ∧ a1.toInt ≤ 7) ∧ -999 ≤ a2.toInt ∧ a2.toInt ≤ 999 ∧ -999 ≤ a3.toInt ∧ a3.toInt ≤ 999 ∧ -1 ≤ a4.toInt)) ∧ 0 ≤ (gV σ 26 0 (a1.toInt.toNat)).toInt ∧ S.2.1 ≤ (gV σ 27 0 (a1.toInt.toNat)).toInt ∧ AlJ σ (a1.toInt.toNat) S.2.1 (-1) (S.1 - 1) ∧ (gV τ 22 0 8).toInt = 0))))) args s 0 0 (aG G)) 8 G 0 0 93 [some (.ref (G.1 22 0)), some (.int a1), some (.int a2), some (.int a3), some (.int a4), some (.int y5), none, none] [] τ := by
    intro n
    induction n with
    | zero => intro τ y5 iτ fτ b_a1 b_a2 b_a3 b_a4 b_y5 v_SM n170 n171 n172 nL hm; exact absurd hm (Nat.not_lt_zero _)
    | succ n ih93 =>
      intro τ y5 iτ fτ b_a1 b_a2 b_a3 b_a4 b_y5 v_SM n170 n171 n172 nL hm93
      have u173 : IV (gV τ 23 0 2) 0 7 := iτ.1 23 0 2
      have u174 : IV (gV τ 27 0 (a1.toInt.toNat)) 0 40 := iτ.1 27 0 (a1.toInt.toNat)
      refine m_iload C dX12_marks_93 rfl ?_
      refine m_aload_n C dX12_marks_95 rfl rfl ?_
      refine g_22_0 C q4_116 dX12_marks_96 ?_
      refine m_iconst (v := 2) C dX12_marks_99 (by decide) ?_
      refine al_23 C kc_2 (by decide) kn_2 dX12_marks_100 ?_
      refine m_eqs (w := (gV τ 23 0 2)) rfl ?_
      refine m_icmp_ge (tgt := 144) C dX12_marks_101 (by decide) (fun c175 => ?_) (fun c175 => ?_)
      · have f176 : (gV τ 23 0 2).toInt ≤ y5.toInt := by
          have q : _ := c175
          simp only [ti_nle, ti_nlt, ti_le, ti_lt, ti_eq, ti_ne, Classical.not_not] at q
          omega
        refine m_aload_n C dX12_marks_144 rfl rfl ?_
        refine m_iconst (v := 0) C dX12_marks_145 (by decide) ?_
        refine m_sipush (v := 200) C dX12_marks_146 (by decide) ?_
        have q177 := kt_0
        have q178 := kt_200
        refine m_callV (n := 2) (ci := 11) (st := []) C (c_X12_copyAll l G τ (0) (200) iτ (iv_wk kc_0 (by decide)) (iv_wk kc_200 (by decide)) (by omega) (by omega) (by omega) (Or.inl (by omega))) (by decide) (by decide) rfl rfl rfl q5_38 q5_35 q5_37 q0_35 q1_7 (by decide +kernel) rfl (by decide) (by decide) rfl (Nat.le_of_ble_eq_true rfl) dX12_marks_149 ?_
        rintro _ τ179 ⟨rfl, i180, f181, h185⟩
        have g184 : Fr MS_X12_marksQ AS_X12_marksQ σ τ179 := Fr.call (fτ) f181 (by decide)
        have v186 : SFm σ τ179 := v_SM.cp h185 (by decide)
        have u187 : IV (gV τ179 23 0 2) 0 7 := i180.1 23 0 2
        have q188 : (gV τ179 22 0 8).toInt = (gV τ 22 0 8).toInt := congrArg Int32.toInt (show (gV τ179 22 0 8) = (gV τ 22 0 8) from (show gV τ179 22 0 8 = (gV τ 22 0 8) from (f181.1 22 0 (8) (by decide) (by decide)).trans rfl))
        have q189 : (gV τ179 26 0 (a1.toInt.toNat)).toInt = (gV τ 26 0 (a1.toInt.toNat)).toInt := congrArg Int32.toInt (show (gV τ179 26 0 (a1.toInt.toNat)) = (gV τ 26 0 (a1.toInt.toNat)) from (show gV τ179 26 0 (a1.toInt.toNat) = (gV τ 26 0 (a1.toInt.toNat)) from (f181.1 26 0 ((a1.toInt.toNat)) (by simp) (by decide)).trans rfl))
        have q190 : (gV τ179 27 0 (a1.toInt.toNat)).toInt = (gV τ 27 0 (a1.toInt.toNat)).toInt := congrArg Int32.toInt (show (gV τ179 27 0 (a1.toInt.toNat)) = (gV τ 27 0 (a1.toInt.toNat)) from (show gV τ179 27 0 (a1.toInt.toNat) = (gV τ 27 0 (a1.toInt.toNat)) from (f181.1 27 0 ((a1.toInt.toNat)) (by simp) (by decide)).trans rfl))
        have q191 : (gV τ179 23 0 0).toInt = (gV τ 23 0 0).toInt := congrArg Int32.toInt (h185.2.2 23 0 0 (Or.inr (Or.inr (Or.inl (by decide)))))
        have q192 : (gV τ179 23 0 2).toInt = (gV τ 23 0 2).toInt := congrArg Int32.toInt (h185.2.2 23 0 2 (Or.inr (Or.inr (Or.inl (by decide)))))
        show MW p l e _ s m args below meth c _ 8 G 0 0 152 [some (.ref (G.1 22 0)), some (.int a1), some (.int a2), some (.int a3), some (.int a4), some (.int y5), none, none] [] τ179
        refine m_iconst (v := 0) C dX12_marks_152 (by decide) ?_
        refine m_istore (L1 := [some (.ref (G.1 22 0)), some (.int a1), some (.int a2), some (.int a3), some (.int a4), some (.int 0), none, none]) C dX12_marks_153 (by decide) rfl rfl ?_
        refine m_iconst (v := 0) C dX12_marks_155 (by decide) ?_
        refine m_istore (L1 := [some (.ref (G.1 22 0)), some (.int a1), some (.int a2), some (.int a3), some (.int a4), some (.int 0), some (.int 0), none]) C dX12_marks_156 (by decide) rfl rfl ?_
        exact J158 ((128 - (0 : Int32).toInt).toNat + 1) τ179 0 0 i180 g184 b_a1 b_a2 b_a3 b_a4 (iv_wk kc_0 (by decide)) (iv_wk kc_0 (by decide)) v186 (by omega) (by omega) (nL.all (by omega)) (Nat.lt_succ_self _)
      · have f193 : y5.toInt < (gV τ 23 0 2).toInt := by
          have q : _ := c175
          simp only [ti_nle, ti_nlt, ti_le, ti_lt, ti_eq, ti_ne, Classical.not_not] at q
          omega
        have b194 : IV y5 0 6 := ⟨by have q1 := b_y5; have q2 := u173; omega, by have q1 := b_y5; have q2 := u173; omega⟩
        have b195 : IV (gV τ 23 0 2) 1 7 := ⟨by have q1 := b_y5; have q2 := u173; omega, by have q1 := b_y5; have q2 := u173; omega⟩
        refine m_aload_n C dX12_marks_104 rfl rfl ?_
        refine g_22_2 C q4_118 dX12_marks_105 ?_
        refine m_bipush (v := 40) C dX12_marks_108 (by decide) ?_
        refine m_iload_n C dX12_marks_110 rfl rfl ?_
        refine m_imul C dX12_marks_111 ?_
        refine m_topi (fun x196 ex196 => ?_)
        have tx196 : x196.toInt = 40 * a1.toInt := by rw [ex196, ti_mulv kc_40 b_a1 (by decide), kt_40]
        have b197 : IV x196 0 280 := by rw [ex196]; exact iv_mul kc_40 b_a1 (by decide)
        refine m_iload C dX12_marks_112 rfl ?_
        refine m_iadd C dX12_marks_114 ?_
        refine m_topi (fun x198 ex198 => ?_)
        have tx198 : x198.toInt = x196.toInt + y5.toInt := by rw [ex198, ti_addv b197 b194 (by decide)]
        have b199 : IV x198 0 286 := by rw [ex198]; exact iv_add b197 b194 (by decide)
        refine al_25 C b199 (by decide) rfl dX12_marks_115 ?_
        refine m_topi (fun x200 ex200 => ?_)
        have q201 : (gV σ 25 0 (40 * (a1.toInt.toNat) + y5.toInt.toNat)).toInt = x200.toInt := by rw [show 40 * (a1.toInt.toNat) + y5.toInt.toNat = (x198.toInt.toNat) by omega, ← (fτ).1 25 0 (x198.toInt.toNat) (by simp) (by decide), show gV τ 25 0 (x198.toInt.toNat) = x200 from ex200.symm]
        refine m_i2l C dX12_marks_116 ?_
        refine m_ldc2 (v := (-1)) C dX12_marks_117 q4_236 ?_
        refine m_aload_n C dX12_marks_120 rfl rfl ?_
        refine g_22_0 C q4_116 dX12_marks_121 ?_
        refine m_iconst (v := 0) C dX12_marks_124 (by decide) ?_
        refine al_23 C kc_0 (by decide) kn_0 dX12_marks_125 ?_
        refine m_eqs (w := (gV τ 23 0 0)) rfl ?_
        refine m_iconst (v := 1) C dX12_marks_126 (by decide) ?_
        have b202 : IV (gV τ 23 0 0) 0 32 := ⟨by have q1 := (iv_any (gV τ 23 0 0)); omega, by have q1 := (iv_any (gV τ 23 0 0)); omega⟩
        refine m_isub C dX12_marks_127 ?_
        refine m_topi (fun x203 ex203 => ?_)
        have tx203 : x203.toInt = (gV τ 23 0 0).toInt - 1 := by rw [ex203, ti_subv b202 kc_1 (by decide), kt_1]
        have b204 : IV x203 (-1) 31 := by rw [ex203]; exact iv_sub b202 kc_1 (by decide)
        refine m_i2l C dX12_marks_128 ?_
        refine m_callS (n := 3) (st := []) C (c_X12_in l G τ ((x200 : Int32).toInt64) ((-1)) ((x203 : Int32).toInt64) iτ ) q4_190 q4_188 q4_189 q1_7 (by decide +kernel) rfl (by decide) (by decide) rfl (Nat.le_of_ble_eq_true rfl) dX12_marks_129 ?_
        rintro _ τ205 ⟨x208, rfl, i206, f207, b209, h211⟩
        have g210 : Fr MS_X12_marksQ AS_X12_marksQ σ τ205 := Fr.call (fτ) f207 (by decide)
        have v212 : SFm σ τ205 := v_SM.fr f207 (by simp) (by decide)
        have q213 : (gV τ205 22 0 8).toInt = (gV τ 22 0 8).toInt := congrArg Int32.toInt (show (gV τ205 22 0 8) = (gV τ 22 0 8) from (show gV τ205 22 0 8 = (gV τ 22 0 8) from (f207.1 22 0 (8) (by decide) (by decide)).trans rfl))
        have q214 : (gV τ205 23 0 0).toInt = (gV τ 23 0 0).toInt := congrArg Int32.toInt (show (gV τ205 23 0 0) = (gV τ 23 0 0) from (show gV τ205 23 0 0 = (gV τ 23 0 0) from (f207.1 23 0 (0) (by decide) (by decide)).trans rfl))
        have q215 : (gV τ205 23 0 2).toInt = (gV τ 23 0 2).toInt := congrArg Int32.toInt (show (gV τ205 23 0 2) = (gV τ 23 0 2) from (show gV τ205 23 0 2 = (gV τ 23 0 2) from (f207.1 23 0 (2) (by decide) (by decide)).trans rfl))
        have q216 : (gV τ205 26 0 (a1.toInt.toNat)).toInt = (gV τ 26 0 (a1.toInt.toNat)).toInt := congrArg Int32.toInt (show (gV τ205 26 0 (a1.toInt.toNat)) = (gV τ 26 0 (a1.toInt.toNat)) from (show gV τ205 26 0 (a1.toInt.toNat) = (gV τ 26 0 (a1.toInt.toNat)) from (f207.1 26 0 ((a1.toInt.toNat)) (by simp) (by decide)).trans rfl))
        have q217 : (gV τ205 27 0 (a1.toInt.toNat)).toInt = (gV τ 27 0 (a1.toInt.toNat)).toInt := congrArg Int32.toInt (show (gV τ205 27 0 (a1.toInt.toNat)) = (gV τ 27 0 (a1.toInt.toNat)) from (show gV τ205 27 0 (a1.toInt.toNat) = (gV τ 27 0 (a1.toInt.toNat)) from (f207.1 27 0 ((a1.toInt.toNat)) (by simp) (by decide)).trans rfl))
        have f218 := tl_i x200
        have f219 := kl_m1
        have f220 := tl_i x203
        have q221 := b204
        rcases h211 with ⟨h211_0, h211_1, h211_2⟩ | ⟨h211_0, h211_1⟩
        · skip
          have b222 : IV x208 1 1 := ⟨by omega, by omega⟩
          show MW p l e _ s m args below meth c _ 8 G 0 0 132 [some (.ref (G.1 22 0)), some (.int a1), some (.int a2), some (.int a3), some (.int a4), some (.int y5), none, none] [.int x208] τ205
          refine m_if_ne (tgt := 138) C dX12_marks_132 (by decide) (fun c223 => ?_) (fun c223 => ?_)
          · have f224 : x208.toInt ≠ 0 := by
              have q : _ := c223
              simp only [ti_nle, ti_nlt, ti_le, ti_lt, ti_eq, ti_ne, Classical.not_not, kt_0] at q
              omega
            have b225 : IV x200 (-1) 31 := ⟨by have q1 := (iv_any x200); omega, by have q1 := (iv_any x200); omega⟩
            obtain ⟨x226, ex226⟩ : ∃ y : Int32, y = y5 + 1 := ⟨_, rfl⟩
            have tx226 : x226.toInt = y5.toInt + 1 := by rw [ex226, ti_addv b194 kc_1 (by decide), kt_1]
            have b227 : IV x226 1 7 := by rw [ex226]; exact iv_add b194 kc_1 (by decide)
            refine m_iinc (v := x226) (L1 := [some (.ref (G.1 22 0)), some (.int a1), some (.int a2), some (.int a3), some (.int a4), some (.int x226), none, none]) C dX12_marks_138 rfl (by rw [ex226]; rfl) (by decide) rfl rfl ?_
            refine m_goto (tgt := 93) C dX12_marks_141 (by decide) ?_
            exact ih93 τ205 x226 i206 g210 b_a1 b_a2 b_a3 b_a4 (iv_wk b227 (by decide)) v212 (by omega) (by omega) (by omega) (nL.more (k := y5.toInt.toNat) (by omega) (by omega) ⟨by omega, by omega⟩) (by have q := hm93; omega)
          · exfalso
            have q : _ := c223
            simp only [ti_nle, ti_nlt, ti_le, ti_lt, ti_eq, ti_ne, Classical.not_not, kt_0] at q
            have q1 := b222; have q2 := kc_0; omega
        · skip
          have b229 : IV x208 0 0 := ⟨by omega, by omega⟩
          show MW p l e _ s m args below meth c _ 8 G 0 0 132 [some (.ref (G.1 22 0)), some (.int a1), some (.int a2), some (.int a3), some (.int a4), some (.int y5), none, none] [.int x208] τ205
          refine m_if_ne (tgt := 138) C dX12_marks_132 (by decide) (fun c230 => ?_) (fun c230 => ?_)
          · exfalso
            have q : _ := c230
            simp only [ti_nle, ti_nlt, ti_le, ti_lt, ti_eq, ti_ne, Classical.not_not, kt_0] at q
            have q1 := b229; have q2 := kc_0; omega
          · have f232 : x208.toInt = 0 := by
              have q : _ := c230
              simp only [ti_nle, ti_nlt, ti_le, ti_lt, ti_eq, ti_ne, Classical.not_not, kt_0] at q
              omega
            refine m_ldc (v := (-1000001)) C dX12_marks_135 q4_192 ?_
            exact m_iret C hr hlk (by decide) (by decide) dX12_marks_137 ⟨_, rfl, i206, g210, (iv_wk kc_m1000001 (by decide)), ⟨v212, (Or.inr (Or.inr (Or.inr (Or.inr (Or.inl ⟨by have qk := kt_m1000001; omega, by have qk := kt_m1000001; omega, by have qk := kt_m1000001; omega, (fun g => by have q := g y5.toInt.toNat (by omega); omega), by have qk := kt_m1000001; omega⟩)))))⟩⟩
  have u233 : IV (gV σ 23 0 2) 0 7 := hI.1 23 0 2
  have u234 : IV (gV σ 27 0 (a1.toInt.toNat)) 0 40 := hI.1 27 0 (a1.toInt.toNat)
  have q235 : (gV σ 23 0 2).toInt = S.2.1 := hMA.1.2.2.1
  have q236 := hMA.1.1
  have q237 : (gV σ 23 0 0).toInt = S.1 := hMA.1.2.1
  refine m_aload_n C dX12_marks_0 rfl rfl ?_
  refine m_callV (n := 0) (ci := 11) (st := []) C (c_X12_isTowerS l G σ  hI ) (by decide) (by decide) rfl rfl rfl q5_67 q5_64 q5_66 q0_38 q1_7 (by decide +kernel) rfl (by decide) (by decide) rfl (Nat.le_of_ble_eq_true rfl) dX12_marks_1 ?_
  rintro _ τ238 ⟨x241, rfl, i239, f240, b242, h244⟩
  have g243 : Fr MS_X12_marksQ AS_X12_marksQ σ τ238 := Fr.call (Fr.rf) f240 (by decide)
  have v245 : SFm σ τ238 := SFm.rf.fr f240 (by simp) (by decide)
  have q246 : (gV τ238 22 0 8).toInt = (gV σ 22 0 8).toInt := congrArg Int32.toInt (show (gV τ238 22 0 8) = (gV σ 22 0 8) from (show gV τ238 22 0 8 = (gV σ 22 0 8) from (f240.1 22 0 (8) (by decide) (by decide)).trans rfl))
  have q247 : (gV τ238 23 0 0).toInt = (gV σ 23 0 0).toInt := congrArg Int32.toInt (show (gV τ238 23 0 0) = (gV σ 23 0 0) from (show gV τ238 23 0 0 = (gV σ 23 0 0) from (f240.1 23 0 (0) (by decide) (by decide)).trans rfl))
  have q248 : (gV τ238 23 0 2).toInt = (gV σ 23 0 2).toInt := congrArg Int32.toInt (show (gV τ238 23 0 2) = (gV σ 23 0 2) from (show gV τ238 23 0 2 = (gV σ 23 0 2) from (f240.1 23 0 (2) (by decide) (by decide)).trans rfl))
  have q249 : (gV τ238 26 0 (a1.toInt.toNat)).toInt = (gV σ 26 0 (a1.toInt.toNat)).toInt := congrArg Int32.toInt (show (gV τ238 26 0 (a1.toInt.toNat)) = (gV σ 26 0 (a1.toInt.toNat)) from (show gV τ238 26 0 (a1.toInt.toNat) = (gV σ 26 0 (a1.toInt.toNat)) from (f240.1 26 0 ((a1.toInt.toNat)) (by simp) (by decide)).trans rfl))
  have q250 : (gV τ238 27 0 (a1.toInt.toNat)).toInt = (gV σ 27 0 (a1.toInt.toNat)).toInt := congrArg Int32.toInt (show (gV τ238 27 0 (a1.toInt.toNat)) = (gV σ 27 0 (a1.toInt.toNat)) from (show gV τ238 27 0 (a1.toInt.toNat) = (gV σ 27 0 (a1.toInt.toNat)) from (f240.1 27 0 ((a1.toInt.toNat)) (by simp) (by decide)).trans rfl))
  rcases h244 with ⟨h244_0, h244_1⟩ | ⟨h244_0, h244_1⟩
  · skip
    have b251 : IV x241 1 1 := ⟨by omega, by omega⟩
    show MW p l e _ s m args below meth c _ 8 G 0 0 4 [some (.ref (G.1 22 0)), some (.int a1), some (.int a2), some (.int a3), some (.int a4), none, none, none] [.int x241] τ238
    refine m_if_ne (tgt := 10) C dX12_marks_4 (by decide) (fun c252 => ?_) (fun c252 => ?_)
    · have f253 : x241.toInt ≠ 0 := by
        have q : _ := c252
        simp only [ti_nle, ti_nlt, ti_le, ti_lt, ti_eq, ti_ne, Classical.not_not, kt_0] at q
        omega
      refine m_iload_n C dX12_marks_10 rfl rfl ?_
      refine m_callS (n := 1) (st := []) C (c_X12_isRow l G τ238 (a1) i239 ) q4_186 q4_184 q4_185 q1_7 (by decide +kernel) rfl (by decide) (by decide) rfl (Nat.le_of_ble_eq_true rfl) dX12_marks_11 ?_
      rintro _ τ254 ⟨x257, rfl, i255, f256, b258, h260⟩
      have g259 : Fr MS_X12_marksQ AS_X12_marksQ σ τ254 := Fr.call (g243) f256 (by decide)
      have v261 : SFm σ τ254 := v245.fr f256 (by simp) (by decide)
      have q262 : (gV τ254 22 0 8).toInt = (gV σ 22 0 8).toInt := congrArg Int32.toInt (show (gV τ254 22 0 8) = (gV σ 22 0 8) from (show gV τ254 22 0 8 = (gV σ 22 0 8) from (f256.1 22 0 (8) (by decide) (by decide)).trans (show gV τ238 22 0 8 = (gV σ 22 0 8) from (f240.1 22 0 (8) (by decide) (by decide)).trans rfl)))
      have q263 : (gV τ254 23 0 0).toInt = (gV σ 23 0 0).toInt := congrArg Int32.toInt (show (gV τ254 23 0 0) = (gV σ 23 0 0) from (show gV τ254 23 0 0 = (gV σ 23 0 0) from (f256.1 23 0 (0) (by decide) (by decide)).trans (show gV τ238 23 0 0 = (gV σ 23 0 0) from (f240.1 23 0 (0) (by decide) (by decide)).trans rfl)))
      have q264 : (gV τ254 23 0 2).toInt = (gV σ 23 0 2).toInt := congrArg Int32.toInt (show (gV τ254 23 0 2) = (gV σ 23 0 2) from (show gV τ254 23 0 2 = (gV σ 23 0 2) from (f256.1 23 0 (2) (by decide) (by decide)).trans (show gV τ238 23 0 2 = (gV σ 23 0 2) from (f240.1 23 0 (2) (by decide) (by decide)).trans rfl)))
      have q265 : (gV τ254 26 0 (a1.toInt.toNat)).toInt = (gV σ 26 0 (a1.toInt.toNat)).toInt := congrArg Int32.toInt (show (gV τ254 26 0 (a1.toInt.toNat)) = (gV σ 26 0 (a1.toInt.toNat)) from (show gV τ254 26 0 (a1.toInt.toNat) = (gV σ 26 0 (a1.toInt.toNat)) from (f256.1 26 0 ((a1.toInt.toNat)) (by simp) (by decide)).trans (show gV τ238 26 0 (a1.toInt.toNat) = (gV σ 26 0 (a1.toInt.toNat)) from (f240.1 26 0 ((a1.toInt.toNat)) (by simp) (by decide)).trans rfl)))
      have q266 : (gV τ254 27 0 (a1.toInt.toNat)).toInt = (gV σ 27 0 (a1.toInt.toNat)).toInt := congrArg Int32.toInt (show (gV τ254 27 0 (a1.toInt.toNat)) = (gV σ 27 0 (a1.toInt.toNat)) from (show gV τ254 27 0 (a1.toInt.toNat) = (gV σ 27 0 (a1.toInt.toNat)) from (f256.1 27 0 ((a1.toInt.toNat)) (by simp) (by decide)).trans (show gV τ238 27 0 (a1.toInt.toNat) = (gV σ 27 0 (a1.toInt.toNat)) from (f240.1 27 0 ((a1.toInt.toNat)) (by simp) (by decide)).trans rfl)))
      rcases h260 with ⟨h260_0, h260_1, h260_2⟩ | ⟨h260_0, h260_1⟩
      · skip
        have b267 : IV x257 1 1 := ⟨by omega, by omega⟩
        show MW p l e _ s m args below meth c _ 8 G 0 0 14 [some (.ref (G.1 22 0)), some (.int a1), some (.int a2), some (.int a3), some (.int a4), none, none, none] [.int x257] τ254
        refine m_if_eq (tgt := 51) C dX12_marks_14 (by decide) (fun c268 => ?_) (fun c268 => ?_)
        · exfalso
          have q : _ := c268
          simp only [ti_nle, ti_nlt, ti_le, ti_lt, ti_eq, ti_ne, Classical.not_not, kt_0] at q
          have q1 := b267; have q2 := kc_0; omega
        · have f270 : x257.toInt ≠ 0 := by
            have q : _ := c268
            simp only [ti_nle, ti_nlt, ti_le, ti_lt, ti_eq, ti_ne, Classical.not_not, kt_0] at q
            omega
          have b271 : IV a1 0 7 := ⟨by have q1 := (iv_any a1); omega, by have q1 := (iv_any a1); omega⟩
          refine m_iload_n C dX12_marks_17 rfl rfl ?_
          refine m_i2l C dX12_marks_18 ?_
          refine m_ldc2 (v := (-999)) C dX12_marks_19 q5_155 ?_
          refine m_ldc2 (v := 999) C dX12_marks_22 q5_156 ?_
          refine m_callS (n := 3) (st := []) C (c_X12_in l G τ254 ((a2 : Int32).toInt64) ((-999)) (999) i255 ) q4_190 q4_188 q4_189 q1_7 (by decide +kernel) rfl (by decide) (by decide) rfl (Nat.le_of_ble_eq_true rfl) dX12_marks_25 ?_
          rintro _ τ272 ⟨x275, rfl, i273, f274, b276, h278⟩
          have g277 : Fr MS_X12_marksQ AS_X12_marksQ σ τ272 := Fr.call (g259) f274 (by decide)
          have v279 : SFm σ τ272 := v261.fr f274 (by simp) (by decide)
          have q280 : (gV τ272 22 0 8).toInt = (gV σ 22 0 8).toInt := congrArg Int32.toInt (show (gV τ272 22 0 8) = (gV σ 22 0 8) from (show gV τ272 22 0 8 = (gV σ 22 0 8) from (f274.1 22 0 (8) (by decide) (by decide)).trans (show gV τ254 22 0 8 = (gV σ 22 0 8) from (f256.1 22 0 (8) (by decide) (by decide)).trans (show gV τ238 22 0 8 = (gV σ 22 0 8) from (f240.1 22 0 (8) (by decide) (by decide)).trans rfl))))
          have q281 : (gV τ272 23 0 0).toInt = (gV σ 23 0 0).toInt := congrArg Int32.toInt (show (gV τ272 23 0 0) = (gV σ 23 0 0) from (show gV τ272 23 0 0 = (gV σ 23 0 0) from (f274.1 23 0 (0) (by decide) (by decide)).trans (show gV τ254 23 0 0 = (gV σ 23 0 0) from (f256.1 23 0 (0) (by decide) (by decide)).trans (show gV τ238 23 0 0 = (gV σ 23 0 0) from (f240.1 23 0 (0) (by decide) (by decide)).trans rfl))))
          have q282 : (gV τ272 23 0 2).toInt = (gV σ 23 0 2).toInt := congrArg Int32.toInt (show (gV τ272 23 0 2) = (gV σ 23 0 2) from (show gV τ272 23 0 2 = (gV σ 23 0 2) from (f274.1 23 0 (2) (by decide) (by decide)).trans (show gV τ254 23 0 2 = (gV σ 23 0 2) from (f256.1 23 0 (2) (by decide) (by decide)).trans (show gV τ238 23 0 2 = (gV σ 23 0 2) from (f240.1 23 0 (2) (by decide) (by decide)).trans rfl))))
          have q283 : (gV τ272 26 0 (a1.toInt.toNat)).toInt = (gV σ 26 0 (a1.toInt.toNat)).toInt := congrArg Int32.toInt (show (gV τ272 26 0 (a1.toInt.toNat)) = (gV σ 26 0 (a1.toInt.toNat)) from (show gV τ272 26 0 (a1.toInt.toNat) = (gV σ 26 0 (a1.toInt.toNat)) from (f274.1 26 0 ((a1.toInt.toNat)) (by simp) (by decide)).trans (show gV τ254 26 0 (a1.toInt.toNat) = (gV σ 26 0 (a1.toInt.toNat)) from (f256.1 26 0 ((a1.toInt.toNat)) (by simp) (by decide)).trans (show gV τ238 26 0 (a1.toInt.toNat) = (gV σ 26 0 (a1.toInt.toNat)) from (f240.1 26 0 ((a1.toInt.toNat)) (by simp) (by decide)).trans rfl))))
          have q284 : (gV τ272 27 0 (a1.toInt.toNat)).toInt = (gV σ 27 0 (a1.toInt.toNat)).toInt := congrArg Int32.toInt (show (gV τ272 27 0 (a1.toInt.toNat)) = (gV σ 27 0 (a1.toInt.toNat)) from (show gV τ272 27 0 (a1.toInt.toNat) = (gV σ 27 0 (a1.toInt.toNat)) from (f274.1 27 0 ((a1.toInt.toNat)) (by simp) (by decide)).trans (show gV τ254 27 0 (a1.toInt.toNat) = (gV σ 27 0 (a1.toInt.toNat)) from (f256.1 27 0 ((a1.toInt.toNat)) (by simp) (by decide)).trans (show gV τ238 27 0 (a1.toInt.toNat) = (gV σ 27 0 (a1.toInt.toNat)) from (f240.1 27 0 ((a1.toInt.toNat)) (by simp) (by decide)).trans rfl))))
          have f285 := tl_i a2
          have f286 := kl_m999
          have f287 := kl_999
          rcases h278 with ⟨h278_0, h278_1, h278_2⟩ | ⟨h278_0, h278_1⟩
          · skip
            have b288 : IV x275 1 1 := ⟨by omega, by omega⟩
            show MW p l e _ s m args below meth c _ 8 G 0 0 28 [some (.ref (G.1 22 0)), some (.int a1), some (.int a2), some (.int a3), some (.int a4), none, none, none] [.int x275] τ272
            refine m_if_eq (tgt := 51) C dX12_marks_28 (by decide) (fun c289 => ?_) (fun c289 => ?_)
            · exfalso
              have q : _ := c289
              simp only [ti_nle, ti_nlt, ti_le, ti_lt, ti_eq, ti_ne, Classical.not_not, kt_0] at q
              have q1 := b288; have q2 := kc_0; omega
            · have f291 : x275.toInt ≠ 0 := by
                have q : _ := c289
                simp only [ti_nle, ti_nlt, ti_le, ti_lt, ti_eq, ti_ne, Classical.not_not, kt_0] at q
                omega
              have b292 : IV a2 (-999) 999 := ⟨by have q1 := (iv_any a2); omega, by have q1 := (iv_any a2); omega⟩
              refine m_iload_n C dX12_marks_31 rfl rfl ?_
              refine m_i2l C dX12_marks_32 ?_
              refine m_ldc2 (v := (-999)) C dX12_marks_33 q5_155 ?_
              refine m_ldc2 (v := 999) C dX12_marks_36 q5_156 ?_
              refine m_callS (n := 3) (st := []) C (c_X12_in l G τ272 ((a3 : Int32).toInt64) ((-999)) (999) i273 ) q4_190 q4_188 q4_189 q1_7 (by decide +kernel) rfl (by decide) (by decide) rfl (Nat.le_of_ble_eq_true rfl) dX12_marks_39 ?_
              rintro _ τ293 ⟨x296, rfl, i294, f295, b297, h299⟩
              have g298 : Fr MS_X12_marksQ AS_X12_marksQ σ τ293 := Fr.call (g277) f295 (by decide)
              have v300 : SFm σ τ293 := v279.fr f295 (by simp) (by decide)
              have q301 : (gV τ293 22 0 8).toInt = (gV σ 22 0 8).toInt := congrArg Int32.toInt (show (gV τ293 22 0 8) = (gV σ 22 0 8) from (show gV τ293 22 0 8 = (gV σ 22 0 8) from (f295.1 22 0 (8) (by decide) (by decide)).trans (show gV τ272 22 0 8 = (gV σ 22 0 8) from (f274.1 22 0 (8) (by decide) (by decide)).trans (show gV τ254 22 0 8 = (gV σ 22 0 8) from (f256.1 22 0 (8) (by decide) (by decide)).trans (show gV τ238 22 0 8 = (gV σ 22 0 8) from (f240.1 22 0 (8) (by decide) (by decide)).trans rfl)))))
              have q302 : (gV τ293 23 0 0).toInt = (gV σ 23 0 0).toInt := congrArg Int32.toInt (show (gV τ293 23 0 0) = (gV σ 23 0 0) from (show gV τ293 23 0 0 = (gV σ 23 0 0) from (f295.1 23 0 (0) (by decide) (by decide)).trans (show gV τ272 23 0 0 = (gV σ 23 0 0) from (f274.1 23 0 (0) (by decide) (by decide)).trans (show gV τ254 23 0 0 = (gV σ 23 0 0) from (f256.1 23 0 (0) (by decide) (by decide)).trans (show gV τ238 23 0 0 = (gV σ 23 0 0) from (f240.1 23 0 (0) (by decide) (by decide)).trans rfl)))))
              have q303 : (gV τ293 23 0 2).toInt = (gV σ 23 0 2).toInt := congrArg Int32.toInt (show (gV τ293 23 0 2) = (gV σ 23 0 2) from (show gV τ293 23 0 2 = (gV σ 23 0 2) from (f295.1 23 0 (2) (by decide) (by decide)).trans (show gV τ272 23 0 2 = (gV σ 23 0 2) from (f274.1 23 0 (2) (by decide) (by decide)).trans (show gV τ254 23 0 2 = (gV σ 23 0 2) from (f256.1 23 0 (2) (by decide) (by decide)).trans (show gV τ238 23 0 2 = (gV σ 23 0 2) from (f240.1 23 0 (2) (by decide) (by decide)).trans rfl)))))
              have q304 : (gV τ293 26 0 (a1.toInt.toNat)).toInt = (gV σ 26 0 (a1.toInt.toNat)).toInt := congrArg Int32.toInt (show (gV τ293 26 0 (a1.toInt.toNat)) = (gV σ 26 0 (a1.toInt.toNat)) from (show gV τ293 26 0 (a1.toInt.toNat) = (gV σ 26 0 (a1.toInt.toNat)) from (f295.1 26 0 ((a1.toInt.toNat)) (by simp) (by decide)).trans (show gV τ272 26 0 (a1.toInt.toNat) = (gV σ 26 0 (a1.toInt.toNat)) from (f274.1 26 0 ((a1.toInt.toNat)) (by simp) (by decide)).trans (show gV τ254 26 0 (a1.toInt.toNat) = (gV σ 26 0 (a1.toInt.toNat)) from (f256.1 26 0 ((a1.toInt.toNat)) (by simp) (by decide)).trans (show gV τ238 26 0 (a1.toInt.toNat) = (gV σ 26 0 (a1.toInt.toNat)) from (f240.1 26 0 ((a1.toInt.toNat)) (by simp) (by decide)).trans rfl)))))
              have q305 : (gV τ293 27 0 (a1.toInt.toNat)).toInt = (gV σ 27 0 (a1.toInt.toNat)).toInt := congrArg Int32.toInt (show (gV τ293 27 0 (a1.toInt.toNat)) = (gV σ 27 0 (a1.toInt.toNat)) from (show gV τ293 27 0 (a1.toInt.toNat) = (gV σ 27 0 (a1.toInt.toNat)) from (f295.1 27 0 ((a1.toInt.toNat)) (by simp) (by decide)).trans (show gV τ272 27 0 (a1.toInt.toNat) = (gV σ 27 0 (a1.toInt.toNat)) from (f274.1 27 0 ((a1.toInt.toNat)) (by simp) (by decide)).trans (show gV τ254 27 0 (a1.toInt.toNat) = (gV σ 27 0 (a1.toInt.toNat)) from (f256.1 27 0 ((a1.toInt.toNat)) (by simp) (by decide)).trans (show gV τ238 27 0 (a1.toInt.toNat) = (gV σ 27 0 (a1.toInt.toNat)) from (f240.1 27 0 ((a1.toInt.toNat)) (by simp) (by decide)).trans rfl)))))
              have f306 := tl_i a3
              have f307 := kl_m999
              have f308 := kl_999
              rcases h299 with ⟨h299_0, h299_1, h299_2⟩ | ⟨h299_0, h299_1⟩
              · skip
                have b309 : IV x296 1 1 := ⟨by omega, by omega⟩
                show MW p l e _ s m args below meth c _ 8 G 0 0 42 [some (.ref (G.1 22 0)), some (.int a1), some (.int a2), some (.int a3), some (.int a4), none, none, none] [.int x296] τ293
                refine m_if_eq (tgt := 51) C dX12_marks_42 (by decide) (fun c310 => ?_) (fun c310 => ?_)
                · exfalso
                  have q : _ := c310
                  simp only [ti_nle, ti_nlt, ti_le, ti_lt, ti_eq, ti_ne, Classical.not_not, kt_0] at q
                  have q1 := b309; have q2 := kc_0; omega
                · have f312 : x296.toInt ≠ 0 := by
                    have q : _ := c310
                    simp only [ti_nle, ti_nlt, ti_le, ti_lt, ti_eq, ti_ne, Classical.not_not, kt_0] at q
                    omega
                  have b313 : IV a3 (-999) 999 := ⟨by have q1 := (iv_any a3); omega, by have q1 := (iv_any a3); omega⟩
                  refine m_iload C dX12_marks_45 rfl ?_
                  refine m_iconst (v := (-1)) C dX12_marks_47 (by decide) ?_
                  refine m_icmp_ge (tgt := 54) C dX12_marks_48 (by decide) (fun c314 => ?_) (fun c314 => ?_)
                  · have f315 : -1 ≤ a4.toInt := by
                      have q : _ := c314
                      simp only [ti_nle, ti_nlt, ti_le, ti_lt, ti_eq, ti_ne, Classical.not_not, kt_m1] at q
                      omega
                    have b316 : IV a4 (-1) 2147483647 := ⟨by have q1 := kc_m1; have q2 := (iv_any a4); omega, by have q1 := kc_m1; have q2 := (iv_any a4); omega⟩
                    refine m_aload_n C dX12_marks_54 rfl rfl ?_
                    refine g_22_3 C q4_119 dX12_marks_55 ?_
                    refine m_iload_n C dX12_marks_58 rfl rfl ?_
                    refine al_26 C b271 (by decide) rfl dX12_marks_59 ?_
                    refine m_eqs (w := (gV σ 26 0 (a1.toInt.toNat))) (show gV τ293 26 0 (a1.toInt.toNat) = (gV σ 26 0 (a1.toInt.toNat)) from (f295.1 26 0 ((a1.toInt.toNat)) (by simp) (by decide)).trans (show gV τ272 26 0 (a1.toInt.toNat) = (gV σ 26 0 (a1.toInt.toNat)) from (f274.1 26 0 ((a1.toInt.toNat)) (by simp) (by decide)).trans (show gV τ254 26 0 (a1.toInt.toNat) = (gV σ 26 0 (a1.toInt.toNat)) from (f256.1 26 0 ((a1.toInt.toNat)) (by simp) (by decide)).trans (show gV τ238 26 0 (a1.toInt.toNat) = (gV σ 26 0 (a1.toInt.toNat)) from (f240.1 26 0 ((a1.toInt.toNat)) (by simp) (by decide)).trans rfl)))) ?_
                    refine m_if_ge (tgt := 69) C dX12_marks_60 (by decide) (fun c317 => ?_) (fun c317 => ?_)
                    · have f318 : 0 ≤ (gV σ 26 0 (a1.toInt.toNat)).toInt := by
                        have q : _ := c317
                        simp only [ti_nle, ti_nlt, ti_le, ti_lt, ti_eq, ti_ne, Classical.not_not, kt_0] at q
                        omega
                      have b319 : IV (gV σ 26 0 (a1.toInt.toNat)) 0 2147483647 := ⟨by have q1 := kc_0; have q2 := (iv_any (gV σ 26 0 (a1.toInt.toNat))); omega, by have q1 := kc_0; have q2 := (iv_any (gV σ 26 0 (a1.toInt.toNat))); omega⟩
                      refine m_aload_n C dX12_marks_69 rfl rfl ?_
                      refine g_22_4 C q4_120 dX12_marks_70 ?_
                      refine m_iload_n C dX12_marks_73 rfl rfl ?_
                      refine al_27 C b271 (by decide) rfl dX12_marks_74 ?_
                      refine m_eqs (w := (gV σ 27 0 (a1.toInt.toNat))) (show gV τ293 27 0 (a1.toInt.toNat) = (gV σ 27 0 (a1.toInt.toNat)) from (f295.1 27 0 ((a1.toInt.toNat)) (by simp) (by decide)).trans (show gV τ272 27 0 (a1.toInt.toNat) = (gV σ 27 0 (a1.toInt.toNat)) from (f274.1 27 0 ((a1.toInt.toNat)) (by simp) (by decide)).trans (show gV τ254 27 0 (a1.toInt.toNat) = (gV σ 27 0 (a1.toInt.toNat)) from (f256.1 27 0 ((a1.toInt.toNat)) (by simp) (by decide)).trans (show gV τ238 27 0 (a1.toInt.toNat) = (gV σ 27 0 (a1.toInt.toNat)) from (f240.1 27 0 ((a1.toInt.toNat)) (by simp) (by decide)).trans rfl)))) ?_
                      refine m_aload_n C dX12_marks_75 rfl rfl ?_
                      refine g_22_0 C q4_116 dX12_marks_76 ?_
                      refine m_iconst (v := 2) C dX12_marks_79 (by decide) ?_
                      refine al_23 C kc_2 (by decide) kn_2 dX12_marks_80 ?_
                      refine m_eqs (w := (gV σ 23 0 2)) (show gV τ293 23 0 2 = (gV σ 23 0 2) from (f295.1 23 0 (2) (by decide) (by decide)).trans (show gV τ272 23 0 2 = (gV σ 23 0 2) from (f274.1 23 0 (2) (by decide) (by decide)).trans (show gV τ254 23 0 2 = (gV σ 23 0 2) from (f256.1 23 0 (2) (by decide) (by decide)).trans (show gV τ238 23 0 2 = (gV σ 23 0 2) from (f240.1 23 0 (2) (by decide) (by decide)).trans rfl)))) ?_
                      refine m_icmp_ge (tgt := 90) C dX12_marks_81 (by decide) (fun c320 => ?_) (fun c320 => ?_)
                      · have f321 : (gV σ 23 0 2).toInt ≤ (gV σ 27 0 (a1.toInt.toNat)).toInt := by
                          have q : _ := c320
                          simp only [ti_nle, ti_nlt, ti_le, ti_lt, ti_eq, ti_ne, Classical.not_not] at q
                          omega
                        refine m_iconst (v := 0) C dX12_marks_90 (by decide) ?_
                        refine m_istore (L1 := [some (.ref (G.1 22 0)), some (.int a1), some (.int a2), some (.int a3), some (.int a4), some (.int 0), none, none]) C dX12_marks_91 (by decide) rfl rfl ?_
                        exact J93 ((7 - (0 : Int32).toInt).toNat + 1) τ293 0 i294 g298 b271 b292 b313 b316 (iv_wk kc_0 (by decide)) v300 (by omega) (by omega) (by omega) (AlJ.zero (by have q := kt_0; omega)) (Nat.lt_succ_self _)
                      · have f322 : (gV σ 27 0 (a1.toInt.toNat)).toInt < (gV σ 23 0 2).toInt := by
                          have q : _ := c320
                          simp only [ti_nle, ti_nlt, ti_le, ti_lt, ti_eq, ti_ne, Classical.not_not] at q
                          omega
                        have b323 : IV (gV σ 27 0 (a1.toInt.toNat)) 0 6 := ⟨by have q1 := u234; have q2 := u233; omega, by have q1 := u234; have q2 := u233; omega⟩
                        have b324 : IV (gV σ 23 0 2) 1 7 := ⟨by have q1 := u234; have q2 := u233; omega, by have q1 := u234; have q2 := u233; omega⟩
                        refine m_aload_n C dX12_marks_84 rfl rfl ?_
                        refine m_iconst (v := 2) C dX12_marks_85 (by decide) ?_
                        have q325 := kt_2
                        refine m_callV (n := 1) (ci := 11) (st := []) C (c_X12_metQ l G τ293 (2) i294 (iv_wk kc_2 (by decide))) (by decide) (by decide) rfl rfl rfl q4_196 q4_193 q4_195 q0_26 q1_7 (by decide +kernel) rfl (by decide) (by decide) rfl (Nat.le_of_ble_eq_true rfl) dX12_marks_86 ?_
                        rintro _ τ326 ⟨x329, rfl, i327, f328, b330, h332⟩
                        have g331 : Fr MS_X12_marksQ AS_X12_marksQ σ τ326 := Fr.call (g298) f328 (by decide)
                        have v333 : SFm σ τ326 := v300.fr f328 (by simp) (by decide)
                        have q334 : (gV τ326 23 0 0).toInt = (gV σ 23 0 0).toInt := congrArg Int32.toInt (show (gV τ326 23 0 0) = (gV σ 23 0 0) from (show gV τ326 23 0 0 = (gV σ 23 0 0) from (f328.1 23 0 (0) (by decide) (by decide)).trans (show gV τ293 23 0 0 = (gV σ 23 0 0) from (f295.1 23 0 (0) (by decide) (by decide)).trans (show gV τ272 23 0 0 = (gV σ 23 0 0) from (f274.1 23 0 (0) (by decide) (by decide)).trans (show gV τ254 23 0 0 = (gV σ 23 0 0) from (f256.1 23 0 (0) (by decide) (by decide)).trans (show gV τ238 23 0 0 = (gV σ 23 0 0) from (f240.1 23 0 (0) (by decide) (by decide)).trans rfl))))))
                        have q335 : (gV τ326 23 0 2).toInt = (gV σ 23 0 2).toInt := congrArg Int32.toInt (show (gV τ326 23 0 2) = (gV σ 23 0 2) from (show gV τ326 23 0 2 = (gV σ 23 0 2) from (f328.1 23 0 (2) (by decide) (by decide)).trans (show gV τ293 23 0 2 = (gV σ 23 0 2) from (f295.1 23 0 (2) (by decide) (by decide)).trans (show gV τ272 23 0 2 = (gV σ 23 0 2) from (f274.1 23 0 (2) (by decide) (by decide)).trans (show gV τ254 23 0 2 = (gV σ 23 0 2) from (f256.1 23 0 (2) (by decide) (by decide)).trans (show gV τ238 23 0 2 = (gV σ 23 0 2) from (f240.1 23 0 (2) (by decide) (by decide)).trans rfl))))))
                        have q336 : (gV τ326 26 0 (a1.toInt.toNat)).toInt = (gV σ 26 0 (a1.toInt.toNat)).toInt := congrArg Int32.toInt (show (gV τ326 26 0 (a1.toInt.toNat)) = (gV σ 26 0 (a1.toInt.toNat)) from (show gV τ326 26 0 (a1.toInt.toNat) = (gV σ 26 0 (a1.toInt.toNat)) from (f328.1 26 0 ((a1.toInt.toNat)) (by simp) (by decide)).trans (show gV τ293 26 0 (a1.toInt.toNat) = (gV σ 26 0 (a1.toInt.toNat)) from (f295.1 26 0 ((a1.toInt.toNat)) (by simp) (by decide)).trans (show gV τ272 26 0 (a1.toInt.toNat) = (gV σ 26 0 (a1.toInt.toNat)) from (f274.1 26 0 ((a1.toInt.toNat)) (by simp) (by decide)).trans (show gV τ254 26 0 (a1.toInt.toNat) = (gV σ 26 0 (a1.toInt.toNat)) from (f256.1 26 0 ((a1.toInt.toNat)) (by simp) (by decide)).trans (show gV τ238 26 0 (a1.toInt.toNat) = (gV σ 26 0 (a1.toInt.toNat)) from (f240.1 26 0 ((a1.toInt.toNat)) (by simp) (by decide)).trans rfl))))))
                        have q337 : (gV τ326 27 0 (a1.toInt.toNat)).toInt = (gV σ 27 0 (a1.toInt.toNat)).toInt := congrArg Int32.toInt (show (gV τ326 27 0 (a1.toInt.toNat)) = (gV σ 27 0 (a1.toInt.toNat)) from (show gV τ326 27 0 (a1.toInt.toNat) = (gV σ 27 0 (a1.toInt.toNat)) from (f328.1 27 0 ((a1.toInt.toNat)) (by simp) (by decide)).trans (show gV τ293 27 0 (a1.toInt.toNat) = (gV σ 27 0 (a1.toInt.toNat)) from (f295.1 27 0 ((a1.toInt.toNat)) (by simp) (by decide)).trans (show gV τ272 27 0 (a1.toInt.toNat) = (gV σ 27 0 (a1.toInt.toNat)) from (f274.1 27 0 ((a1.toInt.toNat)) (by simp) (by decide)).trans (show gV τ254 27 0 (a1.toInt.toNat) = (gV σ 27 0 (a1.toInt.toNat)) from (f256.1 27 0 ((a1.toInt.toNat)) (by simp) (by decide)).trans (show gV τ238 27 0 (a1.toInt.toNat) = (gV σ 27 0 (a1.toInt.toNat)) from (f240.1 27 0 ((a1.toInt.toNat)) (by simp) (by decide)).trans rfl))))))
                        have q338 := kt_2
                        show MW p l e _ s m args below meth c _ 8 G 0 0 89 [some (.ref (G.1 22 0)), some (.int a1), some (.int a2), some (.int a3), some (.int a4), none, none, none] [.int x329] τ326
                        exact m_iret C hr hlk (by decide) (by decide) dX12_marks_89 ⟨_, rfl, i327, g331, (iv_wk b330 (by decide)), ⟨v333, (Or.inr (Or.inr (Or.inr (Or.inl ⟨by omega, by omega, by omega, by omega⟩))))⟩⟩
                    · have f339 : (gV σ 26 0 (a1.toInt.toNat)).toInt < 0 := by
                        have q : _ := c317
                        simp only [ti_nle, ti_nlt, ti_le, ti_lt, ti_eq, ti_ne, Classical.not_not, kt_0] at q
                        omega
                      have b340 : IV (gV σ 26 0 (a1.toInt.toNat)) (-2147483648) (-1) := ⟨by have q1 := (iv_any (gV σ 26 0 (a1.toInt.toNat))); have q2 := kc_0; omega, by have q1 := (iv_any (gV σ 26 0 (a1.toInt.toNat))); have q2 := kc_0; omega⟩
                      refine m_aload_n C dX12_marks_63 rfl rfl ?_
                      refine m_iconst (v := 1) C dX12_marks_64 (by decide) ?_
                      have q341 := kt_1
                      refine m_callV (n := 1) (ci := 11) (st := []) C (c_X12_metQ l G τ293 (1) i294 (iv_wk kc_1 (by decide))) (by decide) (by decide) rfl rfl rfl q4_196 q4_193 q4_195 q0_26 q1_7 (by decide +kernel) rfl (by decide) (by decide) rfl (Nat.le_of_ble_eq_true rfl) dX12_marks_65 ?_
                      rintro _ τ342 ⟨x345, rfl, i343, f344, b346, h348⟩
                      have g347 : Fr MS_X12_marksQ AS_X12_marksQ σ τ342 := Fr.call (g298) f344 (by decide)
                      have v349 : SFm σ τ342 := v300.fr f344 (by simp) (by decide)
                      have q350 : (gV τ342 23 0 0).toInt = (gV σ 23 0 0).toInt := congrArg Int32.toInt (show (gV τ342 23 0 0) = (gV σ 23 0 0) from (show gV τ342 23 0 0 = (gV σ 23 0 0) from (f344.1 23 0 (0) (by decide) (by decide)).trans (show gV τ293 23 0 0 = (gV σ 23 0 0) from (f295.1 23 0 (0) (by decide) (by decide)).trans (show gV τ272 23 0 0 = (gV σ 23 0 0) from (f274.1 23 0 (0) (by decide) (by decide)).trans (show gV τ254 23 0 0 = (gV σ 23 0 0) from (f256.1 23 0 (0) (by decide) (by decide)).trans (show gV τ238 23 0 0 = (gV σ 23 0 0) from (f240.1 23 0 (0) (by decide) (by decide)).trans rfl))))))
                      have q351 : (gV τ342 23 0 2).toInt = (gV σ 23 0 2).toInt := congrArg Int32.toInt (show (gV τ342 23 0 2) = (gV σ 23 0 2) from (show gV τ342 23 0 2 = (gV σ 23 0 2) from (f344.1 23 0 (2) (by decide) (by decide)).trans (show gV τ293 23 0 2 = (gV σ 23 0 2) from (f295.1 23 0 (2) (by decide) (by decide)).trans (show gV τ272 23 0 2 = (gV σ 23 0 2) from (f274.1 23 0 (2) (by decide) (by decide)).trans (show gV τ254 23 0 2 = (gV σ 23 0 2) from (f256.1 23 0 (2) (by decide) (by decide)).trans (show gV τ238 23 0 2 = (gV σ 23 0 2) from (f240.1 23 0 (2) (by decide) (by decide)).trans rfl))))))
                      have q352 : (gV τ342 26 0 (a1.toInt.toNat)).toInt = (gV σ 26 0 (a1.toInt.toNat)).toInt := congrArg Int32.toInt (show (gV τ342 26 0 (a1.toInt.toNat)) = (gV σ 26 0 (a1.toInt.toNat)) from (show gV τ342 26 0 (a1.toInt.toNat) = (gV σ 26 0 (a1.toInt.toNat)) from (f344.1 26 0 ((a1.toInt.toNat)) (by simp) (by decide)).trans (show gV τ293 26 0 (a1.toInt.toNat) = (gV σ 26 0 (a1.toInt.toNat)) from (f295.1 26 0 ((a1.toInt.toNat)) (by simp) (by decide)).trans (show gV τ272 26 0 (a1.toInt.toNat) = (gV σ 26 0 (a1.toInt.toNat)) from (f274.1 26 0 ((a1.toInt.toNat)) (by simp) (by decide)).trans (show gV τ254 26 0 (a1.toInt.toNat) = (gV σ 26 0 (a1.toInt.toNat)) from (f256.1 26 0 ((a1.toInt.toNat)) (by simp) (by decide)).trans (show gV τ238 26 0 (a1.toInt.toNat) = (gV σ 26 0 (a1.toInt.toNat)) from (f240.1 26 0 ((a1.toInt.toNat)) (by simp) (by decide)).trans rfl))))))
                      have q353 : (gV τ342 27 0 (a1.toInt.toNat)).toInt = (gV σ 27 0 (a1.toInt.toNat)).toInt := congrArg Int32.toInt (show (gV τ342 27 0 (a1.toInt.toNat)) = (gV σ 27 0 (a1.toInt.toNat)) from (show gV τ342 27 0 (a1.toInt.toNat) = (gV σ 27 0 (a1.toInt.toNat)) from (f344.1 27 0 ((a1.toInt.toNat)) (by simp) (by decide)).trans (show gV τ293 27 0 (a1.toInt.toNat) = (gV σ 27 0 (a1.toInt.toNat)) from (f295.1 27 0 ((a1.toInt.toNat)) (by simp) (by decide)).trans (show gV τ272 27 0 (a1.toInt.toNat) = (gV σ 27 0 (a1.toInt.toNat)) from (f274.1 27 0 ((a1.toInt.toNat)) (by simp) (by decide)).trans (show gV τ254 27 0 (a1.toInt.toNat) = (gV σ 27 0 (a1.toInt.toNat)) from (f256.1 27 0 ((a1.toInt.toNat)) (by simp) (by decide)).trans (show gV τ238 27 0 (a1.toInt.toNat) = (gV σ 27 0 (a1.toInt.toNat)) from (f240.1 27 0 ((a1.toInt.toNat)) (by simp) (by decide)).trans rfl))))))
                      have q354 := kt_1
                      show MW p l e _ s m args below meth c _ 8 G 0 0 68 [some (.ref (G.1 22 0)), some (.int a1), some (.int a2), some (.int a3), some (.int a4), none, none, none] [.int x345] τ342
                      exact m_iret C hr hlk (by decide) (by decide) dX12_marks_68 ⟨_, rfl, i343, g347, (iv_wk b346 (by decide)), ⟨v349, (Or.inr (Or.inr (Or.inl ⟨by omega, by omega, by omega⟩)))⟩⟩
                  · have f355 : a4.toInt < -1 := by
                      have q : _ := c314
                      simp only [ti_nle, ti_nlt, ti_le, ti_lt, ti_eq, ti_ne, Classical.not_not, kt_m1] at q
                      omega
                    have b356 : IV a4 (-2147483648) (-2) := ⟨by have q1 := (iv_any a4); have q2 := kc_m1; omega, by have q1 := (iv_any a4); have q2 := kc_m1; omega⟩
                    refine m_ldc (v := (-1000001)) C dX12_marks_51 q4_192 ?_
                    exact m_iret C hr hlk (by decide) (by decide) dX12_marks_53 ⟨_, rfl, i294, g298, (iv_wk kc_m1000001 (by decide)), ⟨v300, (Or.inr (Or.inl ⟨by have qk := kt_m1000001; omega, by have qk := kt_m1000001; omega, by have qk := kt_m1000001; omega⟩))⟩⟩
              · skip
                have b357 : IV x296 0 0 := ⟨by omega, by omega⟩
                show MW p l e _ s m args below meth c _ 8 G 0 0 42 [some (.ref (G.1 22 0)), some (.int a1), some (.int a2), some (.int a3), some (.int a4), none, none, none] [.int x296] τ293
                refine m_if_eq (tgt := 51) C dX12_marks_42 (by decide) (fun c358 => ?_) (fun c358 => ?_)
                · have f359 : x296.toInt = 0 := by
                    have q : _ := c358
                    simp only [ti_nle, ti_nlt, ti_le, ti_lt, ti_eq, ti_ne, Classical.not_not, kt_0] at q
                    omega
                  refine m_ldc (v := (-1000001)) C dX12_marks_51 q4_192 ?_
                  exact m_iret C hr hlk (by decide) (by decide) dX12_marks_53 ⟨_, rfl, i294, g298, (iv_wk kc_m1000001 (by decide)), ⟨v300, (Or.inr (Or.inl ⟨by have qk := kt_m1000001; omega, by have qk := kt_m1000001; omega, by have qk := kt_m1000001; omega⟩))⟩⟩
                · exfalso
                  have q : _ := c358
                  simp only [ti_nle, ti_nlt, ti_le, ti_lt, ti_eq, ti_ne, Classical.not_not, kt_0] at q
                  have q1 := b357; have q2 := kc_0; omega
          · skip
            have b361 : IV x275 0 0 := ⟨by omega, by omega⟩
            show MW p l e _ s m args below meth c _ 8 G 0 0 28 [some (.ref (G.1 22 0)), some (.int a1), some (.int a2), some (.int a3), some (.int a4), none, none, none] [.int x275] τ272
            refine m_if_eq (tgt := 51) C dX12_marks_28 (by decide) (fun c362 => ?_) (fun c362 => ?_)
            · have f363 : x275.toInt = 0 := by
                have q : _ := c362
                simp only [ti_nle, ti_nlt, ti_le, ti_lt, ti_eq, ti_ne, Classical.not_not, kt_0] at q
                omega
              refine m_ldc (v := (-1000001)) C dX12_marks_51 q4_192 ?_
              exact m_iret C hr hlk (by decide) (by decide) dX12_marks_53 ⟨_, rfl, i273, g277, (iv_wk kc_m1000001 (by decide)), ⟨v279, (Or.inr (Or.inl ⟨by have qk := kt_m1000001; omega, by have qk := kt_m1000001; omega, by have qk := kt_m1000001; omega⟩))⟩⟩
            · exfalso
              have q : _ := c362
              simp only [ti_nle, ti_nlt, ti_le, ti_lt, ti_eq, ti_ne, Classical.not_not, kt_0] at q
              have q1 := b361; have q2 := kc_0; omega
      · skip
        have b365 : IV x257 0 0 := ⟨by omega, by omega⟩
        show MW p l e _ s m args below meth c _ 8 G 0 0 14 [some (.ref (G.1 22 0)), some (.int a1), some (.int a2), some (.int a3), some (.int a4), none, none, none] [.int x257] τ254
        refine m_if_eq (tgt := 51) C dX12_marks_14 (by decide) (fun c366 => ?_) (fun c366 => ?_)
        · have f367 : x257.toInt = 0 := by
            have q : _ := c366
            simp only [ti_nle, ti_nlt, ti_le, ti_lt, ti_eq, ti_ne, Classical.not_not, kt_0] at q
            omega
          refine m_ldc (v := (-1000001)) C dX12_marks_51 q4_192 ?_
          exact m_iret C hr hlk (by decide) (by decide) dX12_marks_53 ⟨_, rfl, i255, g259, (iv_wk kc_m1000001 (by decide)), ⟨v261, (Or.inr (Or.inl ⟨by have qk := kt_m1000001; omega, by have qk := kt_m1000001; omega, by have qk := kt_m1000001; omega⟩))⟩⟩
        · exfalso
          have q : _ := c366
          simp only [ti_nle, ti_nlt, ti_le, ti_lt, ti_eq, ti_ne, Classical.not_not, kt_0] at q
          have q1 := b365; have q2 := kc_0; omega
    · exfalso
      have q : _ := c252
      simp only [ti_nle, ti_nlt, ti_le, ti_lt, ti_eq, ti_ne, Classical.not_not, kt_0] at q
      have q1 := b251; have q2 := kc_0; omega
  · skip
    have b370 : IV x241 0 0 := ⟨by omega, by omega⟩
    show MW p l e _ s m args below meth c _ 8 G 0 0 4 [some (.ref (G.1 22 0)), some (.int a1), some (.int a2), some (.int a3), some (.int a4), none, none, none] [.int x241] τ238
    refine m_if_ne (tgt := 10) C dX12_marks_4 (by decide) (fun c371 => ?_) (fun c371 => ?_)
    · exfalso
      have q : _ := c371
      simp only [ti_nle, ti_nlt, ti_le, ti_lt, ti_eq, ti_ne, Classical.not_not, kt_0] at q
      have q1 := b370; have q2 := kc_0; omega
    · have f373 : x241.toInt = 0 := by
        have q : _ := c371
        simp only [ti_nle, ti_nlt, ti_le, ti_lt, ti_eq, ti_ne, Classical.not_not, kt_0] at q
        omega
      refine m_ldc (v := (-1000002)) C dX12_marks_7 q5_68 ?_
      exact m_iret C hr hlk (by decide) (by decide) dX12_marks_9 ⟨_, rfl, i239, g243, (iv_wk kc_m1000002 (by decide)), ⟨v245, (Or.inl ⟨by have qk := kt_m1000002; omega, by have qk := kt_m1000002; omega⟩)⟩⟩
