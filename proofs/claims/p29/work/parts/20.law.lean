def Hid (P : Prop) : Prop := P
theorem Hid.mk {P : Prop} (h : P) : Hid P := h
theorem RT.faultB {σ τ : Sg} {r1 r2 : Int32} (h : RT σ) (f1 : Fr MS_X11_faultT AS_X11_faultT σ τ) (hC : r1.toInt = (gV σ 12 0 2).toInt) (hM : r2.toInt = (gV τ 22 0 7).toInt) : r1.toInt = r2.toInt := by
  rw [hC, hM, f1.1 22 0 7 (by decide) (by decide)]
  exact h.2
theorem RS.imageB {τ υ : Sg} {S : Stt} {I : Nat → Stt} {a1 r1 r2 : Int32} (f2 : Fr MS_X12_imageS AS_X12_imageS τ υ) (hC : (((a1.toInt < 0 ∨ 1 < a1.toInt) ∧ r1.toInt = -1000001 ∧ CA τ S I) ∨ ((0 ≤ a1.toInt ∧ a1.toInt ≤ 1) ∧ S.1 ≤ 0 ∧ r1.toInt = -1000002 ∧ CA τ S I) ∨ ((0 ≤ a1.toInt ∧ a1.toInt ≤ 1) ∧ 0 < S.1 ∧ r1.toInt = 1 ∧ CA τ S (upI I (a1.toInt.toNat) S)))) (hM : (((a1.toInt < 0 ∨ 1 < a1.toInt) ∧ r2.toInt = -1000001 ∧ MA υ S I) ∨ ((0 ≤ a1.toInt ∧ a1.toInt ≤ 1) ∧ S.1 ≤ 0 ∧ r2.toInt = -1000002 ∧ MA υ S I) ∨ ((0 ≤ a1.toInt ∧ a1.toInt ≤ 1) ∧ 0 < S.1 ∧ r2.toInt = 1 ∧ MA υ S (upI I (a1.toInt.toNat) S)))) : ∃ I5, CA υ S I5 ∧ MA υ S I5 ∧ r1.toInt = r2.toInt := by
  rcases hC with ⟨c1, c2, c4⟩ | ⟨c1, c2, c3, c4⟩ | ⟨c1, c2, c3, c4⟩ <;> rcases hM with ⟨m1, m2, m4⟩ | ⟨m1, m2, m3, m4⟩ | ⟨m1, m2, m3, m4⟩
  · exact ⟨_, CA.fr c4 f2 (by decide) (by decide), m4, by omega⟩
  · exfalso; omega
  · exfalso; omega
  · exfalso; omega
  · exact ⟨_, CA.fr c4 f2 (by decide) (by decide), m4, by omega⟩
  · exfalso; omega
  · exfalso; omega
  · exfalso; omega
  · exact ⟨_, CA.fr c4 f2 (by decide) (by decide), m4, by omega⟩
theorem RS.restoreB {τ υ : Sg} {S : Stt} {I : Nat → Stt} {a1 r1 r2 : Int32} (f2 : Fr MS_X12_restoreS AS_X12_restoreS τ υ) (hC : (((a1.toInt < 0 ∨ 1 < a1.toInt) ∧ r1.toInt = -1000001 ∧ CA τ S I) ∨ ((0 ≤ a1.toInt ∧ a1.toInt ≤ 1) ∧ (I (a1.toInt.toNat)).1 ≤ 0 ∧ r1.toInt = -1000002 ∧ CA τ S I) ∨ ((0 ≤ a1.toInt ∧ a1.toInt ≤ 1) ∧ 0 < (I (a1.toInt.toNat)).1 ∧ r1.toInt = 1 ∧ CA τ (I (a1.toInt.toNat)) I))) (hM : (((a1.toInt < 0 ∨ 1 < a1.toInt) ∧ r2.toInt = -1000001 ∧ MA υ S I) ∨ ((0 ≤ a1.toInt ∧ a1.toInt ≤ 1) ∧ (I (a1.toInt.toNat)).1 ≤ 0 ∧ r2.toInt = -1000002 ∧ MA υ S I) ∨ ((0 ≤ a1.toInt ∧ a1.toInt ≤ 1) ∧ 0 < (I (a1.toInt.toNat)).1 ∧ r2.toInt = 1 ∧ MA υ (I (a1.toInt.toNat)) I))) : ∃ S5, CA υ S5 I ∧ MA υ S5 I ∧ r1.toInt = r2.toInt := by
  rcases hC with ⟨c1, c2, c4⟩ | ⟨c1, c2, c3, c4⟩ | ⟨c1, c2, c3, c4⟩ <;> rcases hM with ⟨m1, m2, m4⟩ | ⟨m1, m2, m3, m4⟩ | ⟨m1, m2, m3, m4⟩
  · exact ⟨_, CA.fr c4 f2 (by decide) (by decide), m4, by omega⟩
  · exfalso; omega
  · exfalso; omega
  · exfalso; omega
  · exact ⟨_, CA.fr c4 f2 (by decide) (by decide), m4, by omega⟩
  · exfalso; omega
  · exfalso; omega
  · exfalso; omega
  · exact ⟨_, CA.fr c4 f2 (by decide) (by decide), m4, by omega⟩
theorem RS.kindB {S : Stt} {a1 r1 r2 : Int32} (hC : (((a1.toInt < 0 ∨ S.2.1 ≤ a1.toInt) ∧ r1.toInt = -1000001) ∨ ((0 ≤ a1.toInt ∧ a1.toInt < S.2.1) ∧ r1.toInt = (S.2.2 a1.toInt.toNat).1))) (hM : (((a1.toInt < 0 ∨ S.2.1 ≤ a1.toInt) ∧ r2.toInt = -1000001) ∨ ((0 ≤ a1.toInt ∧ a1.toInt < S.2.1) ∧ r2.toInt = (S.2.2 a1.toInt.toNat).1))) : r1.toInt = r2.toInt := by omega
theorem RS.asB {S : Stt} {a1 a2 r1 r2 : Int32} (hC : ((((a1.toInt < 0 ∨ S.2.1 ≤ a1.toInt) ∨ a2.toInt < 0 ∨ 5 < a2.toInt) ∧ r1.toInt = -1000001) ∨ ((0 ≤ a1.toInt ∧ a1.toInt < S.2.1) ∧ 0 ≤ a2.toInt ∧ a2.toInt ≤ 5 ∧ (a2.toInt = 0 ∨ (S.2.2 a1.toInt.toNat).1 = a2.toInt ∨ (a2.toInt = 1 ∧ (S.2.2 a1.toInt.toNat).1 ≤ 3) ∨ (a2.toInt = 4 ∧ (S.2.2 a1.toInt.toNat).1 = 5)) ∧ r1.toInt = a1.toInt) ∨ ((0 ≤ a1.toInt ∧ a1.toInt < S.2.1) ∧ 0 ≤ a2.toInt ∧ a2.toInt ≤ 5 ∧ ¬ (a2.toInt = 0 ∨ (S.2.2 a1.toInt.toNat).1 = a2.toInt ∨ (a2.toInt = 1 ∧ (S.2.2 a1.toInt.toNat).1 ≤ 3) ∨ (a2.toInt = 4 ∧ (S.2.2 a1.toInt.toNat).1 = 5)) ∧ r1.toInt = -1000013))) (hM : ((((a1.toInt < 0 ∨ S.2.1 ≤ a1.toInt) ∨ a2.toInt < 0 ∨ 5 < a2.toInt) ∧ r2.toInt = -1000001) ∨ ((0 ≤ a1.toInt ∧ a1.toInt < S.2.1) ∧ 0 ≤ a2.toInt ∧ a2.toInt ≤ 5 ∧ (a2.toInt = 0 ∨ (S.2.2 a1.toInt.toNat).1 = a2.toInt ∨ (a2.toInt = 1 ∧ (S.2.2 a1.toInt.toNat).1 ≤ 3) ∨ (a2.toInt = 4 ∧ (S.2.2 a1.toInt.toNat).1 = 5)) ∧ r2.toInt = a1.toInt) ∨ ((0 ≤ a1.toInt ∧ a1.toInt < S.2.1) ∧ 0 ≤ a2.toInt ∧ a2.toInt ≤ 5 ∧ ¬ (a2.toInt = 0 ∨ (S.2.2 a1.toInt.toNat).1 = a2.toInt ∨ (a2.toInt = 1 ∧ (S.2.2 a1.toInt.toNat).1 ≤ 3) ∨ (a2.toInt = 4 ∧ (S.2.2 a1.toInt.toNat).1 = 5)) ∧ r2.toInt = -1000013))) : r1.toInt = r2.toInt := by omega
theorem RS.askB {σ τ υ : Sg} {S : Stt} {a1 a2 r1 r2 : Int32} (h : TR σ) (f1 : Fr MS_X11_askS AS_X11_askS σ τ) (f2 : Fr MS_X12_askS AS_X12_askS τ υ) (hC : ((((a1.toInt < 0 ∨ S.2.1 ≤ a1.toInt) ∨ a2.toInt < 0 ∨ 1 < a2.toInt) ∧ r1.toInt = -1000001 ∧ (gV τ 14 0 1 = gV σ 14 0 1 ∧ ∀ i, gV τ 15 0 i = gV σ 15 0 i)) ∨ ((0 ≤ a1.toInt ∧ a1.toInt < S.2.1) ∧ (0 ≤ a2.toInt ∧ a2.toInt ≤ 1) ∧ r1.toInt = asV a2.toInt (S.2.2 a1.toInt.toNat).1 ((a1.toInt.toNat) : Int) (S.2.2 (a1.toInt.toNat)).2.1 (S.2.2 (a1.toInt.toNat)).2.2 ∧ TrI 14 1 15 τ (asL a2.toInt (S.2.2 a1.toInt.toNat).1)))) (hM : ((((a1.toInt < 0 ∨ S.2.1 ≤ a1.toInt) ∨ a2.toInt < 0 ∨ 1 < a2.toInt) ∧ r2.toInt = -1000001 ∧ (gV υ 22 0 20 = gV τ 22 0 20 ∧ ∀ i, gV υ 31 0 i = gV τ 31 0 i)) ∨ ((0 ≤ a1.toInt ∧ a1.toInt < S.2.1) ∧ (0 ≤ a2.toInt ∧ a2.toInt ≤ 1) ∧ r2.toInt = asV a2.toInt (S.2.2 a1.toInt.toNat).1 ((a1.toInt.toNat) : Int) (S.2.2 (a1.toInt.toNat)).2.1 (S.2.2 (a1.toInt.toNat)).2.2 ∧ TrI 22 20 31 υ (asL a2.toInt (S.2.2 a1.toInt.toNat).1)))) : TR υ ∧ r1.toInt = r2.toInt := by
  rcases hC with ⟨c1, c2, c3, c4⟩ | ⟨c1, c2, c3, c4⟩ <;> rcases hM with ⟨m1, m2, m3, m4⟩ | ⟨m1, m2, m3, m4⟩
  · refine ⟨⟨?_, fun i hi => ?_⟩, by omega⟩
    · rw [f2.1 14 0 1 (by decide) (by decide), c3, m3, f1.1 22 0 20 (by decide) (by decide)]
      exact h.1
    · rw [f2.1 14 0 1 (by decide) (by decide), c3] at hi
      rw [f2.1 15 0 i (by simp) (by decide), c4, m4, f1.1 31 0 i (by simp) (by decide)]
      exact h.2 i hi
  · exfalso; omega
  · exfalso; omega
  · exact ⟨TR.of (c4.fr f2 (by decide) (by decide) (by simp) (by decide)) m4, by rw [c3, m3]⟩
theorem RS.traceB {σ τ υ : Sg} {a1 r1 r2 : Int32} (h : TR σ) (f1 : Fr MS_X11_traceS AS_X11_traceS σ τ) (hC : (((a1.toInt < 0 ∨ (gV σ 14 0 1).toInt ≤ a1.toInt) ∧ r1.toInt = -1000000) ∨ (0 ≤ a1.toInt ∧ a1.toInt < (gV σ 14 0 1).toInt ∧ r1.toInt = (gV σ 15 0 (a1.toInt.toNat)).toInt))) (hM : (((a1.toInt < 0 ∨ (gV τ 22 0 20).toInt ≤ a1.toInt) ∧ r2.toInt = -1000000) ∨ (0 ≤ a1.toInt ∧ a1.toInt < (gV τ 22 0 20).toInt ∧ r2.toInt = (gV τ 31 0 (a1.toInt.toNat)).toInt))) : r1.toInt = r2.toInt := by
  rw [f1.1 22 0 20 (by decide) (by decide), f1.1 31 0 _ (by simp) (by decide), ← h.1] at hM
  rcases hC with ⟨c1, c2⟩ | ⟨c1, c2, c3⟩
  · omega
  · have q := h.2 a1.toInt.toNat (by omega)
    omega
section LAW
set_option maxHeartbeats 8000000 in
set_option maxRecDepth 100000 in
theorem law_loop {p : Program} {e : Env} {s : State} {m : MethodId} {below : List Frame} {meth : Method} {c : Code} (l : Launch) {b L : Nat} {xs : Nat → Int32} (hL : L ≤ 3072) (C0 : lw_At p s m meth c b L xs) (G : Gt) (hG0 : G.2.2.2.1 = s.heap.size) : ∀ (n : Nat) (τ : Sg) (y3 : Int32) (S : Stt) (I : Nat → Stt), Inv τ → Rel τ → RT τ → CA τ S I → MA τ S I → TR τ → IV y3 0 3078 → (3078 - y3.toInt).toNat < n → MW p l e room_1 s m #[Value.ref b] below meth c (lw_Z below #[Value.ref b] s) 4 G (250 + 8 * y3.toInt.toNat) (5300 + 24 * y3.toInt.toNat) 18 [some (.ref b), some (.ref (G.1 0 0)), some (.ref (G.1 22 0)), some (.int y3)] [] τ := by
  obtain ⟨hx, hb, hr, hml, hown, hts, hX, hbl, hlk, hgv⟩ := C0
  have C : Cx p s m #[Value.ref b] c cL_law 4 "LeanTowerLaw" := ⟨hx, hb, hml, hown, fun w hw => hts w (List.mem_filter.mp hw).1⟩
  have hbA : ¬ aG G b := fun q => by have q2 : G.2.2.2.1 ≤ b := q; omega
  have hL31 : L < 2 ^ 31 := by omega
  have k0 : (0 : Int32).toInt = 0 := by decide
  have k1 : (1 : Int32).toInt = 1 := by decide
  intro n
  induction n with
  | zero => intro τ y3 S I iτ rτ tτ cτ mτ wτ b_y3 hm; exact absurd hm (Nat.not_lt_zero _)
  | succ n ih18 =>
      intro τ y3 S I iτ rτ tτ cτ mτ wτ b_y3 hm18
      refine m_iload_n C dL_law_18 rfl rfl ?_
      refine m_aload_n C dL_law_19 rfl rfl ?_
      refine m_slen C hX hbl hbA hL31 dL_law_20 (fun x1 tx1 => ?_)
      have b2 : IV x1 0 3072 := ⟨by omega, by omega⟩
      refine m_bipush (v := 6) C dL_law_21 (by decide) ?_
      refine m_isub C dL_law_23 ?_
      refine m_topi (fun x3 ex3 => ?_)
      have tx3 : x3.toInt = x1.toInt - 6 := by rw [ex3, ti_subv b2 kc_6 (by decide), kt_6]
      have b4 : IV x3 (-6) 3066 := by rw [ex3]; exact iv_sub b2 kc_6 (by decide)
      refine m_icmp_gt (tgt := 1034) C dL_law_24 (by decide) (fun c5 => ?_) (fun c5 => ?_)
      · have f6 : x3.toInt < y3.toInt := by
          have q : _ := c5
          simp only [ti_nle, ti_nlt, ti_le, ti_lt, ti_eq, ti_ne, Classical.not_not] at q
          omega
        refine m_iconst (v := 1) C dL_law_1034 (by decide) ?_
        exact m_law1 C hG0 hr hlk ⟨by omega, by omega⟩ dL_law_1035
      · have f7 : y3.toInt ≤ x3.toInt := by
          have q : _ := c5
          simp only [ti_nle, ti_nlt, ti_le, ti_lt, ti_eq, ti_ne, Classical.not_not] at q
          omega
        have b8 : IV y3 0 3066 := ⟨by have q1 := b_y3; have q2 := b4; omega, by have q1 := b_y3; have q2 := b4; omega⟩
        have b9 : IV x3 0 3066 := ⟨by have q1 := b_y3; have q2 := b4; omega, by have q1 := b_y3; have q2 := b4; omega⟩
        refine m_aload_n C dL_law_27 rfl rfl ?_
        refine m_iload_n C dL_law_28 rfl rfl ?_
        refine m_sld C hX hbl hbA ⟨by omega, by omega⟩ dL_law_29 ?_
        refine m_topi (fun x10 ex10 => ?_)
        refine m_bipush (v := 31) C dL_law_30 (by decide) ?_
        refine m_iand C dL_law_32 ?_
        refine m_topi (fun x11 ex11 => ?_)
        have b12 : IV x11 0 31 := by rw [ex11]; exact iv_and_r kc_31 (by decide)
        by_cases s13 : x11.toInt < 0 ∨ 29 < x11.toInt
        · refine m_tableOut (tgt := 1028) C dL_law_33 s13 (by decide) ?_
          obtain ⟨x14, ex14⟩ : ∃ y : Int32, y = y3 + 6 := ⟨_, rfl⟩
          have tx14 : x14.toInt = y3.toInt + 6 := by rw [ex14, ti_addv b8 kc_6 (by decide), kt_6]
          have b15 : IV x14 6 3072 := by rw [ex14]; exact iv_add b8 kc_6 (by decide)
          refine m_iinc (v := x14) (L1 := [some (.ref b), some (.ref (G.1 0 0)), some (.ref (G.1 22 0)), some (.int x14)]) C dL_law_1028 rfl (by rw [ex14]; rfl) (by decide) rfl rfl ?_
          refine m_goto (tgt := 18) C dL_law_1031 (by decide) ?_
          refine m_widen (c2 := 250 + 8 * x14.toInt.toNat) (s2 := 5300 + 24 * x14.toInt.toNat) (by omega) (by omega) ?_
          exact ih18 τ x14 S I iτ rτ tτ cτ mτ wτ (iv_wk b15 (by decide)) (by have q := hm18; omega)
        by_cases s16 : x11.toInt = 0
        · refine m_tableIn (tgt := 168) (off := 135) C dL_law_33 (by omega) (by omega) (by rw [s16]; rfl) (by decide) ?_
          have b17 : IV x11 0 0 := ⟨by omega, by omega⟩
          refine m_aload_n C dL_law_168 rfl rfl ?_
          refine m_aload_n C dL_law_169 rfl rfl ?_
          refine m_iload_n C dL_law_170 rfl rfl ?_
          refine m_iconst (v := 1) C dL_law_171 (by decide) ?_
          refine m_iadd C dL_law_172 ?_
          refine m_topi (fun x18 ex18 => ?_)
          have tx18 : x18.toInt = y3.toInt + 1 := by rw [ex18, ti_addv b8 kc_1 (by decide), kt_1]
          have b19 : IV x18 1 3067 := by rw [ex18]; exact iv_add b8 kc_1 (by decide)
          refine m_sld C hX hbl hbA ⟨by omega, by omega⟩ dL_law_173 ?_
          refine m_topi (fun x20 ex20 => ?_)
          refine m_aload_n C dL_law_174 rfl rfl ?_
          refine m_iload_n C dL_law_175 rfl rfl ?_
          refine m_iconst (v := 2) C dL_law_176 (by decide) ?_
          refine m_iadd C dL_law_177 ?_
          refine m_topi (fun x21 ex21 => ?_)
          have tx21 : x21.toInt = y3.toInt + 2 := by rw [ex21, ti_addv b8 kc_2 (by decide), kt_2]
          have b22 : IV x21 2 3068 := by rw [ex21]; exact iv_add b8 kc_2 (by decide)
          refine m_sld C hX hbl hbA ⟨by omega, by omega⟩ dL_law_178 ?_
          refine m_topi (fun x23 ex23 => ?_)
          refine m_aload_n C dL_law_179 rfl rfl ?_
          refine m_iload_n C dL_law_180 rfl rfl ?_
          refine m_iconst (v := 3) C dL_law_181 (by decide) ?_
          refine m_iadd C dL_law_182 ?_
          refine m_topi (fun x24 ex24 => ?_)
          have tx24 : x24.toInt = y3.toInt + 3 := by rw [ex24, ti_addv b8 kc_3 (by decide), kt_3]
          have b25 : IV x24 3 3069 := by rw [ex24]; exact iv_add b8 kc_3 (by decide)
          refine m_sld C hX hbl hbA ⟨by omega, by omega⟩ dL_law_183 ?_
          refine m_topi (fun x26 ex26 => ?_)
          refine m_callV (n := 3) (ci := 10) (st := []) C (c_X11_rowE l G τ (x20) (x23) (x26) iτ ) (by decide) (by decide) rfl rfl rfl q1_229 q1_226 q1_227 q1_228 q1_1 (by decide +kernel) rfl (by decide) ⟨by show (250 + 8 * y3.toInt.toNat) + 0 ≤ 600000; omega, by show (5300 + 24 * y3.toInt.toNat) + 0 ≤ 7302250; omega⟩ rfl (Nat.le_of_ble_eq_true rfl) dL_law_184 ?_
          rintro _ τ27 ⟨x30, rfl, i28, f29, b31, h33⟩
          have r34 : TR τ27 := wτ.call f29 (by decide) (by decide)
          have r35 : MA τ27 S I := mτ.fr iτ f29 (by decide) (by decide)
          have z36 := Hid.mk h33
          clear h33
          have r37 : RT τ27 := tτ.call f29 (by decide) (by decide)
          have r38 : CA τ27 S I := cτ.fr f29 (by decide) (by decide)
          show MW p l e _ s m _ below meth c _ 4 G (250 + 8 * y3.toInt.toNat) (5300 + 24 * y3.toInt.toNat) 187 [some (.ref b), some (.ref (G.1 0 0)), some (.ref (G.1 22 0)), some (.int y3)] [.int x30] τ27
          refine m_pop C dL_law_187 rfl ?_
          refine m_aload_n C dL_law_188 rfl rfl ?_
          refine m_aload_n C dL_law_189 rfl rfl ?_
          refine m_iload_n C dL_law_190 rfl rfl ?_
          refine m_iconst (v := 1) C dL_law_191 (by decide) ?_
          refine m_iadd C dL_law_192 ?_
          refine m_topi (fun x39 ex39 => ?_)
          have tx39 : x39.toInt = y3.toInt + 1 := by rw [ex39, ti_addv b8 kc_1 (by decide), kt_1]
          have b40 : IV x39 1 3067 := by rw [ex39]; exact iv_add b8 kc_1 (by decide)
          refine m_sld C hX hbl hbA ⟨by omega, by omega⟩ dL_law_193 ?_
          refine m_eqs (w := x20) (by rw [ex20, show x39.toInt.toNat = x18.toInt.toNat by omega]) ?_
          refine m_aload_n C dL_law_194 rfl rfl ?_
          refine m_iload_n C dL_law_195 rfl rfl ?_
          refine m_iconst (v := 2) C dL_law_196 (by decide) ?_
          refine m_iadd C dL_law_197 ?_
          refine m_topi (fun x41 ex41 => ?_)
          have tx41 : x41.toInt = y3.toInt + 2 := by rw [ex41, ti_addv b8 kc_2 (by decide), kt_2]
          have b42 : IV x41 2 3068 := by rw [ex41]; exact iv_add b8 kc_2 (by decide)
          refine m_sld C hX hbl hbA ⟨by omega, by omega⟩ dL_law_198 ?_
          refine m_eqs (w := x23) (by rw [ex23, show x41.toInt.toNat = x21.toInt.toNat by omega]) ?_
          refine m_aload_n C dL_law_199 rfl rfl ?_
          refine m_iload_n C dL_law_200 rfl rfl ?_
          refine m_iconst (v := 3) C dL_law_201 (by decide) ?_
          refine m_iadd C dL_law_202 ?_
          refine m_topi (fun x43 ex43 => ?_)
          have tx43 : x43.toInt = y3.toInt + 3 := by rw [ex43, ti_addv b8 kc_3 (by decide), kt_3]
          have b44 : IV x43 3 3069 := by rw [ex43]; exact iv_add b8 kc_3 (by decide)
          refine m_sld C hX hbl hbA ⟨by omega, by omega⟩ dL_law_203 ?_
          refine m_eqs (w := x26) (by rw [ex26, show x43.toInt.toNat = x24.toInt.toNat by omega]) ?_
          refine m_callV (n := 3) (ci := 11) (st := []) C (c_X12_rowE l G τ27 (x20) (x23) (x26) i28 ) (by decide) (by decide) rfl rfl rfl q4_183 q4_180 q4_181 q4_182 q1_7 (by decide +kernel) rfl (by decide) ⟨by show (250 + 8 * y3.toInt.toNat) + 0 ≤ 600000; omega, by show (5300 + 24 * y3.toInt.toNat) + 0 ≤ 7302250; omega⟩ rfl (Nat.le_of_ble_eq_true rfl) dL_law_204 ?_
          rintro _ τ45 ⟨x48, rfl, i46, f47, b49, h51⟩
          have r52 : TR τ45 := r34.call f47 (by decide) (by decide)
          have g53 := Rel.rowB rτ f29 f47 z36 h51
          have r54 : Rel τ45 := g53.1
          have q55 := g53.2
          have r56 : RT τ45 := r37.call f47 (by decide) (by decide)
          have r57 : CA τ45 S I := r38.fr f47 (by decide) (by decide)
          have r58 : MA τ45 S I := r35.fr i28 f47 (by decide) (by decide)
          clear h51 z36
          show MW p l e _ s m _ below meth c _ 4 G (250 + 8 * y3.toInt.toNat) (5300 + 24 * y3.toInt.toNat) 207 [some (.ref b), some (.ref (G.1 0 0)), some (.ref (G.1 22 0)), some (.int y3)] [.int x48] τ45
          refine m_pop C dL_law_207 rfl ?_
          refine m_goto (tgt := 1028) C dL_law_208 (by decide) ?_
          obtain ⟨x59, ex59⟩ : ∃ y : Int32, y = y3 + 6 := ⟨_, rfl⟩
          have tx59 : x59.toInt = y3.toInt + 6 := by rw [ex59, ti_addv b8 kc_6 (by decide), kt_6]
          have b60 : IV x59 6 3072 := by rw [ex59]; exact iv_add b8 kc_6 (by decide)
          refine m_iinc (v := x59) (L1 := [some (.ref b), some (.ref (G.1 0 0)), some (.ref (G.1 22 0)), some (.int x59)]) C dL_law_1028 rfl (by rw [ex59]; rfl) (by decide) rfl rfl ?_
          refine m_goto (tgt := 18) C dL_law_1031 (by decide) ?_
          refine m_widen (c2 := 250 + 8 * x59.toInt.toNat) (s2 := 5300 + 24 * x59.toInt.toNat) (by omega) (by omega) ?_
          exact ih18 τ45 x59 S I i46 r54 r56 r57 r58 r52 (iv_wk b60 (by decide)) (by have q := hm18; omega)
        by_cases s61 : x11.toInt = 1
        · refine m_tableIn (tgt := 211) (off := 178) C dL_law_33 (by omega) (by omega) (by rw [s61]; rfl) (by decide) ?_
          have b62 : IV x11 1 1 := ⟨by omega, by omega⟩
          refine m_aload_n C dL_law_211 rfl rfl ?_
          refine m_aload_n C dL_law_212 rfl rfl ?_
          refine m_iload_n C dL_law_213 rfl rfl ?_
          refine m_iconst (v := 1) C dL_law_214 (by decide) ?_
          refine m_iadd C dL_law_215 ?_
          refine m_topi (fun x63 ex63 => ?_)
          have tx63 : x63.toInt = y3.toInt + 1 := by rw [ex63, ti_addv b8 kc_1 (by decide), kt_1]
          have b64 : IV x63 1 3067 := by rw [ex63]; exact iv_add b8 kc_1 (by decide)
          refine m_sld C hX hbl hbA ⟨by omega, by omega⟩ dL_law_216 ?_
          refine m_topi (fun x65 ex65 => ?_)
          refine m_aload_n C dL_law_217 rfl rfl ?_
          refine m_iload_n C dL_law_218 rfl rfl ?_
          refine m_iconst (v := 2) C dL_law_219 (by decide) ?_
          refine m_iadd C dL_law_220 ?_
          refine m_topi (fun x66 ex66 => ?_)
          have tx66 : x66.toInt = y3.toInt + 2 := by rw [ex66, ti_addv b8 kc_2 (by decide), kt_2]
          have b67 : IV x66 2 3068 := by rw [ex66]; exact iv_add b8 kc_2 (by decide)
          refine m_sld C hX hbl hbA ⟨by omega, by omega⟩ dL_law_221 ?_
          refine m_topi (fun x68 ex68 => ?_)
          refine m_aload_n C dL_law_222 rfl rfl ?_
          refine m_iload_n C dL_law_223 rfl rfl ?_
          refine m_iconst (v := 3) C dL_law_224 (by decide) ?_
          refine m_iadd C dL_law_225 ?_
          refine m_topi (fun x69 ex69 => ?_)
          have tx69 : x69.toInt = y3.toInt + 3 := by rw [ex69, ti_addv b8 kc_3 (by decide), kt_3]
          have b70 : IV x69 3 3069 := by rw [ex69]; exact iv_add b8 kc_3 (by decide)
          refine m_sld C hX hbl hbA ⟨by omega, by omega⟩ dL_law_226 ?_
          refine m_topi (fun x71 ex71 => ?_)
          refine m_callV (n := 3) (ci := 10) (st := []) C (c_X11_setE l G τ (x65) (x68) (x71) iτ ) (by decide) (by decide) rfl rfl rfl q2_11 q2_8 q2_9 q2_10 q1_1 (by decide +kernel) rfl (by decide) ⟨by show (250 + 8 * y3.toInt.toNat) + 0 ≤ 600000; omega, by show (5300 + 24 * y3.toInt.toNat) + 0 ≤ 7302250; omega⟩ rfl (Nat.le_of_ble_eq_true rfl) dL_law_227 ?_
          rintro _ τ72 ⟨x75, rfl, i73, f74, b76, h78⟩
          have r79 : TR τ72 := wτ.call f74 (by decide) (by decide)
          have r80 : MA τ72 S I := mτ.fr iτ f74 (by decide) (by decide)
          have z81 := Hid.mk h78
          clear h78
          have r82 : Rel τ72 := rτ.call f74 (by decide) (by decide)
          have r83 : RT τ72 := tτ.call f74 (by decide) (by decide)
          have r84 : CA τ72 S I := cτ.fr f74 (by decide) (by decide)
          show MW p l e _ s m _ below meth c _ 4 G (250 + 8 * y3.toInt.toNat) (5300 + 24 * y3.toInt.toNat) 230 [some (.ref b), some (.ref (G.1 0 0)), some (.ref (G.1 22 0)), some (.int y3)] [.int x75] τ72
          refine m_pop C dL_law_230 rfl ?_
          refine m_aload_n C dL_law_231 rfl rfl ?_
          refine m_aload_n C dL_law_232 rfl rfl ?_
          refine m_iload_n C dL_law_233 rfl rfl ?_
          refine m_iconst (v := 1) C dL_law_234 (by decide) ?_
          refine m_iadd C dL_law_235 ?_
          refine m_topi (fun x85 ex85 => ?_)
          have tx85 : x85.toInt = y3.toInt + 1 := by rw [ex85, ti_addv b8 kc_1 (by decide), kt_1]
          have b86 : IV x85 1 3067 := by rw [ex85]; exact iv_add b8 kc_1 (by decide)
          refine m_sld C hX hbl hbA ⟨by omega, by omega⟩ dL_law_236 ?_
          refine m_eqs (w := x65) (by rw [ex65, show x85.toInt.toNat = x63.toInt.toNat by omega]) ?_
          refine m_aload_n C dL_law_237 rfl rfl ?_
          refine m_iload_n C dL_law_238 rfl rfl ?_
          refine m_iconst (v := 2) C dL_law_239 (by decide) ?_
          refine m_iadd C dL_law_240 ?_
          refine m_topi (fun x87 ex87 => ?_)
          have tx87 : x87.toInt = y3.toInt + 2 := by rw [ex87, ti_addv b8 kc_2 (by decide), kt_2]
          have b88 : IV x87 2 3068 := by rw [ex87]; exact iv_add b8 kc_2 (by decide)
          refine m_sld C hX hbl hbA ⟨by omega, by omega⟩ dL_law_241 ?_
          refine m_eqs (w := x68) (by rw [ex68, show x87.toInt.toNat = x66.toInt.toNat by omega]) ?_
          refine m_aload_n C dL_law_242 rfl rfl ?_
          refine m_iload_n C dL_law_243 rfl rfl ?_
          refine m_iconst (v := 3) C dL_law_244 (by decide) ?_
          refine m_iadd C dL_law_245 ?_
          refine m_topi (fun x89 ex89 => ?_)
          have tx89 : x89.toInt = y3.toInt + 3 := by rw [ex89, ti_addv b8 kc_3 (by decide), kt_3]
          have b90 : IV x89 3 3069 := by rw [ex89]; exact iv_add b8 kc_3 (by decide)
          refine m_sld C hX hbl hbA ⟨by omega, by omega⟩ dL_law_246 ?_
          refine m_eqs (w := x71) (by rw [ex71, show x89.toInt.toNat = x69.toInt.toNat by omega]) ?_
          refine m_callV (n := 3) (ci := 11) (st := []) C (c_X12_setE l G τ72 (x65) (x68) (x71) i73 ) (by decide) (by decide) rfl rfl rfl q4_205 q4_202 q4_203 q4_204 q1_7 (by decide +kernel) rfl (by decide) ⟨by show (250 + 8 * y3.toInt.toNat) + 0 ≤ 600000; omega, by show (5300 + 24 * y3.toInt.toNat) + 0 ≤ 7302250; omega⟩ rfl (Nat.le_of_ble_eq_true rfl) dL_law_247 ?_
          rintro _ τ91 ⟨x94, rfl, i92, f93, b95, h97⟩
          have r98 : TR τ91 := r79.call f93 (by decide) (by decide)
          have g99 := Rel.setB rτ f74 f93 z81 h97
          have r100 : Rel τ91 := r82.call f93 (by decide) (by decide)
          have r101 : RT τ91 := r83.call f93 (by decide) (by decide)
          have r102 : CA τ91 S I := r84.fr f93 (by decide) (by decide)
          have r103 : MA τ91 S I := r80.fr i73 f93 (by decide) (by decide)
          clear h97 z81
          show MW p l e _ s m _ below meth c _ 4 G (250 + 8 * y3.toInt.toNat) (5300 + 24 * y3.toInt.toNat) 250 [some (.ref b), some (.ref (G.1 0 0)), some (.ref (G.1 22 0)), some (.int y3)] [.int x94] τ91
          refine m_pop C dL_law_250 rfl ?_
          refine m_goto (tgt := 1028) C dL_law_251 (by decide) ?_
          obtain ⟨x104, ex104⟩ : ∃ y : Int32, y = y3 + 6 := ⟨_, rfl⟩
          have tx104 : x104.toInt = y3.toInt + 6 := by rw [ex104, ti_addv b8 kc_6 (by decide), kt_6]
          have b105 : IV x104 6 3072 := by rw [ex104]; exact iv_add b8 kc_6 (by decide)
          refine m_iinc (v := x104) (L1 := [some (.ref b), some (.ref (G.1 0 0)), some (.ref (G.1 22 0)), some (.int x104)]) C dL_law_1028 rfl (by rw [ex104]; rfl) (by decide) rfl rfl ?_
          refine m_goto (tgt := 18) C dL_law_1031 (by decide) ?_
          refine m_widen (c2 := 250 + 8 * x104.toInt.toNat) (s2 := 5300 + 24 * x104.toInt.toNat) (by omega) (by omega) ?_
          exact ih18 τ91 x104 S I i92 r100 r101 r102 r103 r98 (iv_wk b105 (by decide)) (by have q := hm18; omega)
        by_cases s106 : x11.toInt = 2
        · refine m_tableIn (tgt := 254) (off := 221) C dL_law_33 (by omega) (by omega) (by rw [s106]; rfl) (by decide) ?_
          have b107 : IV x11 2 2 := ⟨by omega, by omega⟩
          refine m_aload_n C dL_law_254 rfl rfl ?_
          refine m_aload_n C dL_law_255 rfl rfl ?_
          refine m_iload_n C dL_law_256 rfl rfl ?_
          refine m_iconst (v := 1) C dL_law_257 (by decide) ?_
          refine m_iadd C dL_law_258 ?_
          refine m_topi (fun x108 ex108 => ?_)
          have tx108 : x108.toInt = y3.toInt + 1 := by rw [ex108, ti_addv b8 kc_1 (by decide), kt_1]
          have b109 : IV x108 1 3067 := by rw [ex108]; exact iv_add b8 kc_1 (by decide)
          refine m_sld C hX hbl hbA ⟨by omega, by omega⟩ dL_law_259 ?_
          refine m_topi (fun x110 ex110 => ?_)
          refine m_aload_n C dL_law_260 rfl rfl ?_
          refine m_iload_n C dL_law_261 rfl rfl ?_
          refine m_iconst (v := 2) C dL_law_262 (by decide) ?_
          refine m_iadd C dL_law_263 ?_
          refine m_topi (fun x111 ex111 => ?_)
          have tx111 : x111.toInt = y3.toInt + 2 := by rw [ex111, ti_addv b8 kc_2 (by decide), kt_2]
          have b112 : IV x111 2 3068 := by rw [ex111]; exact iv_add b8 kc_2 (by decide)
          refine m_sld C hX hbl hbA ⟨by omega, by omega⟩ dL_law_264 ?_
          refine m_topi (fun x113 ex113 => ?_)
          refine m_aload_n C dL_law_265 rfl rfl ?_
          refine m_iload_n C dL_law_266 rfl rfl ?_
          refine m_iconst (v := 3) C dL_law_267 (by decide) ?_
          refine m_iadd C dL_law_268 ?_
          refine m_topi (fun x114 ex114 => ?_)
          have tx114 : x114.toInt = y3.toInt + 3 := by rw [ex114, ti_addv b8 kc_3 (by decide), kt_3]
          have b115 : IV x114 3 3069 := by rw [ex114]; exact iv_add b8 kc_3 (by decide)
          refine m_sld C hX hbl hbA ⟨by omega, by omega⟩ dL_law_269 ?_
          refine m_topi (fun x116 ex116 => ?_)
          refine m_aload_n C dL_law_270 rfl rfl ?_
          refine m_iload_n C dL_law_271 rfl rfl ?_
          refine m_iconst (v := 4) C dL_law_272 (by decide) ?_
          refine m_iadd C dL_law_273 ?_
          refine m_topi (fun x117 ex117 => ?_)
          have tx117 : x117.toInt = y3.toInt + 4 := by rw [ex117, ti_addv b8 kc_4 (by decide), kt_4]
          have b118 : IV x117 4 3070 := by rw [ex117]; exact iv_add b8 kc_4 (by decide)
          refine m_sld C hX hbl hbA ⟨by omega, by omega⟩ dL_law_274 ?_
          refine m_topi (fun x119 ex119 => ?_)
          refine m_aload_n C dL_law_275 rfl rfl ?_
          refine m_iload_n C dL_law_276 rfl rfl ?_
          refine m_iconst (v := 5) C dL_law_277 (by decide) ?_
          refine m_iadd C dL_law_278 ?_
          refine m_topi (fun x120 ex120 => ?_)
          have tx120 : x120.toInt = y3.toInt + 5 := by rw [ex120, ti_addv b8 kc_5 (by decide), kt_5]
          have b121 : IV x120 5 3071 := by rw [ex120]; exact iv_add b8 kc_5 (by decide)
          refine m_sld C hX hbl hbA ⟨by omega, by omega⟩ dL_law_279 ?_
          refine m_topi (fun x122 ex122 => ?_)
          refine m_callV (n := 5) (ci := 10) (st := []) C (c_X11_copyE l G τ (x110) (x113) (x116) (x119) (x122) iτ ) (by decide) (by decide) rfl rfl rfl q2_23 q2_20 q2_21 q2_22 q1_1 (by decide +kernel) rfl (by decide) ⟨by show (250 + 8 * y3.toInt.toNat) + 0 ≤ 600000; omega, by show (5300 + 24 * y3.toInt.toNat) + 0 ≤ 7302250; omega⟩ rfl (Nat.le_of_ble_eq_true rfl) dL_law_280 ?_
          rintro _ τ123 ⟨x126, rfl, i124, f125, b127, h129⟩
          have r130 : TR τ123 := wτ.call f125 (by decide) (by decide)
          have r131 : MA τ123 S I := mτ.fr iτ f125 (by decide) (by decide)
          have z132 := Hid.mk h129
          clear h129
          have r133 : Rel τ123 := rτ.call f125 (by decide) (by decide)
          have r134 : RT τ123 := tτ.call f125 (by decide) (by decide)
          have r135 : CA τ123 S I := cτ.fr f125 (by decide) (by decide)
          show MW p l e _ s m _ below meth c _ 4 G (250 + 8 * y3.toInt.toNat) (5300 + 24 * y3.toInt.toNat) 283 [some (.ref b), some (.ref (G.1 0 0)), some (.ref (G.1 22 0)), some (.int y3)] [.int x126] τ123
          refine m_pop C dL_law_283 rfl ?_
          refine m_aload_n C dL_law_284 rfl rfl ?_
          refine m_aload_n C dL_law_285 rfl rfl ?_
          refine m_iload_n C dL_law_286 rfl rfl ?_
          refine m_iconst (v := 1) C dL_law_287 (by decide) ?_
          refine m_iadd C dL_law_288 ?_
          refine m_topi (fun x136 ex136 => ?_)
          have tx136 : x136.toInt = y3.toInt + 1 := by rw [ex136, ti_addv b8 kc_1 (by decide), kt_1]
          have b137 : IV x136 1 3067 := by rw [ex136]; exact iv_add b8 kc_1 (by decide)
          refine m_sld C hX hbl hbA ⟨by omega, by omega⟩ dL_law_289 ?_
          refine m_eqs (w := x110) (by rw [ex110, show x136.toInt.toNat = x108.toInt.toNat by omega]) ?_
          refine m_aload_n C dL_law_290 rfl rfl ?_
          refine m_iload_n C dL_law_291 rfl rfl ?_
          refine m_iconst (v := 2) C dL_law_292 (by decide) ?_
          refine m_iadd C dL_law_293 ?_
          refine m_topi (fun x138 ex138 => ?_)
          have tx138 : x138.toInt = y3.toInt + 2 := by rw [ex138, ti_addv b8 kc_2 (by decide), kt_2]
          have b139 : IV x138 2 3068 := by rw [ex138]; exact iv_add b8 kc_2 (by decide)
          refine m_sld C hX hbl hbA ⟨by omega, by omega⟩ dL_law_294 ?_
          refine m_eqs (w := x113) (by rw [ex113, show x138.toInt.toNat = x111.toInt.toNat by omega]) ?_
          refine m_aload_n C dL_law_295 rfl rfl ?_
          refine m_iload_n C dL_law_296 rfl rfl ?_
          refine m_iconst (v := 3) C dL_law_297 (by decide) ?_
          refine m_iadd C dL_law_298 ?_
          refine m_topi (fun x140 ex140 => ?_)
          have tx140 : x140.toInt = y3.toInt + 3 := by rw [ex140, ti_addv b8 kc_3 (by decide), kt_3]
          have b141 : IV x140 3 3069 := by rw [ex140]; exact iv_add b8 kc_3 (by decide)
          refine m_sld C hX hbl hbA ⟨by omega, by omega⟩ dL_law_299 ?_
          refine m_eqs (w := x116) (by rw [ex116, show x140.toInt.toNat = x114.toInt.toNat by omega]) ?_
          refine m_aload_n C dL_law_300 rfl rfl ?_
          refine m_iload_n C dL_law_301 rfl rfl ?_
          refine m_iconst (v := 4) C dL_law_302 (by decide) ?_
          refine m_iadd C dL_law_303 ?_
          refine m_topi (fun x142 ex142 => ?_)
          have tx142 : x142.toInt = y3.toInt + 4 := by rw [ex142, ti_addv b8 kc_4 (by decide), kt_4]
          have b143 : IV x142 4 3070 := by rw [ex142]; exact iv_add b8 kc_4 (by decide)
          refine m_sld C hX hbl hbA ⟨by omega, by omega⟩ dL_law_304 ?_
          refine m_eqs (w := x119) (by rw [ex119, show x142.toInt.toNat = x117.toInt.toNat by omega]) ?_
          refine m_aload_n C dL_law_305 rfl rfl ?_
          refine m_iload_n C dL_law_306 rfl rfl ?_
          refine m_iconst (v := 5) C dL_law_307 (by decide) ?_
          refine m_iadd C dL_law_308 ?_
          refine m_topi (fun x144 ex144 => ?_)
          have tx144 : x144.toInt = y3.toInt + 5 := by rw [ex144, ti_addv b8 kc_5 (by decide), kt_5]
          have b145 : IV x144 5 3071 := by rw [ex144]; exact iv_add b8 kc_5 (by decide)
          refine m_sld C hX hbl hbA ⟨by omega, by omega⟩ dL_law_309 ?_
          refine m_eqs (w := x122) (by rw [ex122, show x144.toInt.toNat = x120.toInt.toNat by omega]) ?_
          refine m_callV (n := 5) (ci := 11) (st := []) C (c_X12_copyE l G τ123 (x110) (x113) (x116) (x119) (x122) i124 ) (by decide) (by decide) rfl rfl rfl q4_212 q4_209 q4_210 q4_211 q1_7 (by decide +kernel) rfl (by decide) ⟨by show (250 + 8 * y3.toInt.toNat) + 0 ≤ 600000; omega, by show (5300 + 24 * y3.toInt.toNat) + 0 ≤ 7302250; omega⟩ rfl (Nat.le_of_ble_eq_true rfl) dL_law_310 ?_
          rintro _ τ146 ⟨x149, rfl, i147, f148, b150, h152⟩
          have r153 : TR τ146 := r130.call f148 (by decide) (by decide)
          have g154 := Rel.copyB rτ f125 f148 z132 h152
          have r155 : Rel τ146 := r133.call f148 (by decide) (by decide)
          have r156 : RT τ146 := r134.call f148 (by decide) (by decide)
          have r157 : CA τ146 S I := r135.fr f148 (by decide) (by decide)
          have r158 : MA τ146 S I := r131.fr i124 f148 (by decide) (by decide)
          clear h152 z132
          show MW p l e _ s m _ below meth c _ 4 G (250 + 8 * y3.toInt.toNat) (5300 + 24 * y3.toInt.toNat) 313 [some (.ref b), some (.ref (G.1 0 0)), some (.ref (G.1 22 0)), some (.int y3)] [.int x149] τ146
          refine m_pop C dL_law_313 rfl ?_
          refine m_goto (tgt := 1028) C dL_law_314 (by decide) ?_
          obtain ⟨x159, ex159⟩ : ∃ y : Int32, y = y3 + 6 := ⟨_, rfl⟩
          have tx159 : x159.toInt = y3.toInt + 6 := by rw [ex159, ti_addv b8 kc_6 (by decide), kt_6]
          have b160 : IV x159 6 3072 := by rw [ex159]; exact iv_add b8 kc_6 (by decide)
          refine m_iinc (v := x159) (L1 := [some (.ref b), some (.ref (G.1 0 0)), some (.ref (G.1 22 0)), some (.int x159)]) C dL_law_1028 rfl (by rw [ex159]; rfl) (by decide) rfl rfl ?_
          refine m_goto (tgt := 18) C dL_law_1031 (by decide) ?_
          refine m_widen (c2 := 250 + 8 * x159.toInt.toNat) (s2 := 5300 + 24 * x159.toInt.toNat) (by omega) (by omega) ?_
          exact ih18 τ146 x159 S I i147 r155 r156 r157 r158 r153 (iv_wk b160 (by decide)) (by have q := hm18; omega)
        by_cases s161 : x11.toInt = 3
        · refine m_tableIn (tgt := 317) (off := 284) C dL_law_33 (by omega) (by omega) (by rw [s161]; rfl) (by decide) ?_
          have b162 : IV x11 3 3 := ⟨by omega, by omega⟩
          refine m_aload_n C dL_law_317 rfl rfl ?_
          refine m_aload_n C dL_law_318 rfl rfl ?_
          refine m_iload_n C dL_law_319 rfl rfl ?_
          refine m_iconst (v := 1) C dL_law_320 (by decide) ?_
          refine m_iadd C dL_law_321 ?_
          refine m_topi (fun x163 ex163 => ?_)
          have tx163 : x163.toInt = y3.toInt + 1 := by rw [ex163, ti_addv b8 kc_1 (by decide), kt_1]
          have b164 : IV x163 1 3067 := by rw [ex163]; exact iv_add b8 kc_1 (by decide)
          refine m_sld C hX hbl hbA ⟨by omega, by omega⟩ dL_law_322 ?_
          refine m_topi (fun x165 ex165 => ?_)
          refine m_callV (n := 1) (ci := 10) (st := []) C (c_X11_dropE l G τ (x165) iτ ) (by decide) (by decide) rfl rfl rfl q2_34 q2_31 q2_32 q2_33 q1_1 (by decide +kernel) rfl (by decide) ⟨by show (250 + 8 * y3.toInt.toNat) + 0 ≤ 600000; omega, by show (5300 + 24 * y3.toInt.toNat) + 0 ≤ 7302250; omega⟩ rfl (Nat.le_of_ble_eq_true rfl) dL_law_323 ?_
          rintro _ τ166 ⟨x169, rfl, i167, f168, b170, h172⟩
          have r173 : TR τ166 := wτ.call f168 (by decide) (by decide)
          have r174 : MA τ166 S I := mτ.fr iτ f168 (by decide) (by decide)
          have z175 := Hid.mk h172
          clear h172
          have r176 : RT τ166 := tτ.call f168 (by decide) (by decide)
          have r177 : CA τ166 S I := cτ.fr f168 (by decide) (by decide)
          show MW p l e _ s m _ below meth c _ 4 G (250 + 8 * y3.toInt.toNat) (5300 + 24 * y3.toInt.toNat) 326 [some (.ref b), some (.ref (G.1 0 0)), some (.ref (G.1 22 0)), some (.int y3)] [.int x169] τ166
          refine m_pop C dL_law_326 rfl ?_
          refine m_aload_n C dL_law_327 rfl rfl ?_
          refine m_aload_n C dL_law_328 rfl rfl ?_
          refine m_iload_n C dL_law_329 rfl rfl ?_
          refine m_iconst (v := 1) C dL_law_330 (by decide) ?_
          refine m_iadd C dL_law_331 ?_
          refine m_topi (fun x178 ex178 => ?_)
          have tx178 : x178.toInt = y3.toInt + 1 := by rw [ex178, ti_addv b8 kc_1 (by decide), kt_1]
          have b179 : IV x178 1 3067 := by rw [ex178]; exact iv_add b8 kc_1 (by decide)
          refine m_sld C hX hbl hbA ⟨by omega, by omega⟩ dL_law_332 ?_
          refine m_eqs (w := x165) (by rw [ex165, show x178.toInt.toNat = x163.toInt.toNat by omega]) ?_
          refine m_callV (n := 1) (ci := 11) (st := []) C (c_X12_dropE l G τ166 (x165) i167 ) (by decide) (by decide) rfl rfl rfl q4_216 q4_213 q4_214 q4_215 q1_7 (by decide +kernel) rfl (by decide) ⟨by show (250 + 8 * y3.toInt.toNat) + 0 ≤ 600000; omega, by show (5300 + 24 * y3.toInt.toNat) + 0 ≤ 7302250; omega⟩ rfl (Nat.le_of_ble_eq_true rfl) dL_law_333 ?_
          rintro _ τ180 ⟨x183, rfl, i181, f182, b184, h186⟩
          have r187 : TR τ180 := r173.call f182 (by decide) (by decide)
          have g188 := Rel.dropB rτ f168 f182 z175 h186
          have r189 : Rel τ180 := g188.1
          have q190 := g188.2
          have r191 : RT τ180 := r176.call f182 (by decide) (by decide)
          have r192 : CA τ180 S I := r177.fr f182 (by decide) (by decide)
          have r193 : MA τ180 S I := r174.fr i167 f182 (by decide) (by decide)
          clear h186 z175
          show MW p l e _ s m _ below meth c _ 4 G (250 + 8 * y3.toInt.toNat) (5300 + 24 * y3.toInt.toNat) 336 [some (.ref b), some (.ref (G.1 0 0)), some (.ref (G.1 22 0)), some (.int y3)] [.int x183] τ180
          refine m_pop C dL_law_336 rfl ?_
          refine m_goto (tgt := 1028) C dL_law_337 (by decide) ?_
          obtain ⟨x194, ex194⟩ : ∃ y : Int32, y = y3 + 6 := ⟨_, rfl⟩
          have tx194 : x194.toInt = y3.toInt + 6 := by rw [ex194, ti_addv b8 kc_6 (by decide), kt_6]
          have b195 : IV x194 6 3072 := by rw [ex194]; exact iv_add b8 kc_6 (by decide)
          refine m_iinc (v := x194) (L1 := [some (.ref b), some (.ref (G.1 0 0)), some (.ref (G.1 22 0)), some (.int x194)]) C dL_law_1028 rfl (by rw [ex194]; rfl) (by decide) rfl rfl ?_
          refine m_goto (tgt := 18) C dL_law_1031 (by decide) ?_
          refine m_widen (c2 := 250 + 8 * x194.toInt.toNat) (s2 := 5300 + 24 * x194.toInt.toNat) (by omega) (by omega) ?_
          exact ih18 τ180 x194 S I i181 r189 r191 r192 r193 r187 (iv_wk b195 (by decide)) (by have q := hm18; omega)
        by_cases s196 : x11.toInt = 4
        · refine m_tableIn (tgt := 340) (off := 307) C dL_law_33 (by omega) (by omega) (by rw [s196]; rfl) (by decide) ?_
          have b197 : IV x11 4 4 := ⟨by omega, by omega⟩
          refine m_aload_n C dL_law_340 rfl rfl ?_
          refine m_aload_n C dL_law_341 rfl rfl ?_
          refine m_iload_n C dL_law_342 rfl rfl ?_
          refine m_iconst (v := 1) C dL_law_343 (by decide) ?_
          refine m_iadd C dL_law_344 ?_
          refine m_topi (fun x198 ex198 => ?_)
          have tx198 : x198.toInt = y3.toInt + 1 := by rw [ex198, ti_addv b8 kc_1 (by decide), kt_1]
          have b199 : IV x198 1 3067 := by rw [ex198]; exact iv_add b8 kc_1 (by decide)
          refine m_sld C hX hbl hbA ⟨by omega, by omega⟩ dL_law_345 ?_
          refine m_topi (fun x200 ex200 => ?_)
          refine m_i2l C dL_law_346 ?_
          refine m_bipush (v := 32) C dL_law_347 (by decide) ?_
          refine m_lshl C dL_law_349 ?_
          refine m_topl (fun w201 ew201 => ?_)
          refine m_aload_n C dL_law_350 rfl rfl ?_
          refine m_iload_n C dL_law_351 rfl rfl ?_
          refine m_iconst (v := 2) C dL_law_352 (by decide) ?_
          refine m_iadd C dL_law_353 ?_
          refine m_topi (fun x202 ex202 => ?_)
          have tx202 : x202.toInt = y3.toInt + 2 := by rw [ex202, ti_addv b8 kc_2 (by decide), kt_2]
          have b203 : IV x202 2 3068 := by rw [ex202]; exact iv_add b8 kc_2 (by decide)
          refine m_sld C hX hbl hbA ⟨by omega, by omega⟩ dL_law_354 ?_
          refine m_topi (fun x204 ex204 => ?_)
          refine m_i2l C dL_law_355 ?_
          refine m_ldc2 (v := 4294967295) C dL_law_356 q5_222 ?_
          refine m_land C dL_law_359 ?_
          refine m_topl (fun w205 ew205 => ?_)
          refine m_lor C dL_law_360 ?_
          refine m_topl (fun w206 ew206 => ?_)
          refine m_aload_n C dL_law_361 rfl rfl ?_
          refine m_iload_n C dL_law_362 rfl rfl ?_
          refine m_iconst (v := 3) C dL_law_363 (by decide) ?_
          refine m_iadd C dL_law_364 ?_
          refine m_topi (fun x207 ex207 => ?_)
          have tx207 : x207.toInt = y3.toInt + 3 := by rw [ex207, ti_addv b8 kc_3 (by decide), kt_3]
          have b208 : IV x207 3 3069 := by rw [ex207]; exact iv_add b8 kc_3 (by decide)
          refine m_sld C hX hbl hbA ⟨by omega, by omega⟩ dL_law_365 ?_
          refine m_topi (fun x209 ex209 => ?_)
          refine m_callV (n := 2) (ci := 10) (st := []) C (c_X11_feedT l G τ (w206) (x209) iτ ) (by decide) (by decide) rfl rfl rfl q2_42 q2_39 q2_40 q2_41 q1_1 (by decide +kernel) rfl (by decide) ⟨by show (250 + 8 * y3.toInt.toNat) + 0 ≤ 600000; omega, by show (5300 + 24 * y3.toInt.toNat) + 0 ≤ 7302250; omega⟩ rfl (Nat.le_of_ble_eq_true rfl) dL_law_366 ?_
          rintro _ τ210 ⟨x213, rfl, i211, f212, b214, h216⟩
          have r217 : TR τ210 := wτ.call f212 (by decide) (by decide)
          have r218 : MA τ210 S I := mτ.fr iτ f212 (by decide) (by decide)
          have z219 := Hid.mk h216
          clear h216
          have r220 : CA τ210 S I := cτ.fr f212 (by decide) (by decide)
          show MW p l e _ s m _ below meth c _ 4 G (250 + 8 * y3.toInt.toNat) (5300 + 24 * y3.toInt.toNat) 369 [some (.ref b), some (.ref (G.1 0 0)), some (.ref (G.1 22 0)), some (.int y3)] [.int x213] τ210
          refine m_pop C dL_law_369 rfl ?_
          refine m_aload_n C dL_law_370 rfl rfl ?_
          refine m_aload_n C dL_law_371 rfl rfl ?_
          refine m_iload_n C dL_law_372 rfl rfl ?_
          refine m_iconst (v := 1) C dL_law_373 (by decide) ?_
          refine m_iadd C dL_law_374 ?_
          refine m_topi (fun x221 ex221 => ?_)
          have tx221 : x221.toInt = y3.toInt + 1 := by rw [ex221, ti_addv b8 kc_1 (by decide), kt_1]
          have b222 : IV x221 1 3067 := by rw [ex221]; exact iv_add b8 kc_1 (by decide)
          refine m_sld C hX hbl hbA ⟨by omega, by omega⟩ dL_law_375 ?_
          refine m_eqs (w := x200) (by rw [ex200, show x221.toInt.toNat = x198.toInt.toNat by omega]) ?_
          refine m_i2l C dL_law_376 ?_
          refine m_bipush (v := 32) C dL_law_377 (by decide) ?_
          refine m_lshl C dL_law_379 ?_
          refine m_topl (fun w223 ew223 => ?_)
          refine m_aload_n C dL_law_380 rfl rfl ?_
          refine m_iload_n C dL_law_381 rfl rfl ?_
          refine m_iconst (v := 2) C dL_law_382 (by decide) ?_
          refine m_iadd C dL_law_383 ?_
          refine m_topi (fun x224 ex224 => ?_)
          have tx224 : x224.toInt = y3.toInt + 2 := by rw [ex224, ti_addv b8 kc_2 (by decide), kt_2]
          have b225 : IV x224 2 3068 := by rw [ex224]; exact iv_add b8 kc_2 (by decide)
          refine m_sld C hX hbl hbA ⟨by omega, by omega⟩ dL_law_384 ?_
          refine m_eqs (w := x204) (by rw [ex204, show x224.toInt.toNat = x202.toInt.toNat by omega]) ?_
          refine m_i2l C dL_law_385 ?_
          refine m_ldc2 (v := 4294967295) C dL_law_386 q5_222 ?_
          refine m_land C dL_law_389 ?_
          refine m_topl (fun w226 ew226 => ?_)
          refine m_lor C dL_law_390 ?_
          refine m_topl (fun w227 ew227 => ?_)
          refine m_aload_n C dL_law_391 rfl rfl ?_
          refine m_iload_n C dL_law_392 rfl rfl ?_
          refine m_iconst (v := 3) C dL_law_393 (by decide) ?_
          refine m_iadd C dL_law_394 ?_
          refine m_topi (fun x228 ex228 => ?_)
          have tx228 : x228.toInt = y3.toInt + 3 := by rw [ex228, ti_addv b8 kc_3 (by decide), kt_3]
          have b229 : IV x228 3 3069 := by rw [ex228]; exact iv_add b8 kc_3 (by decide)
          refine m_sld C hX hbl hbA ⟨by omega, by omega⟩ dL_law_395 ?_
          refine m_eqs (w := x209) (by rw [ex209, show x228.toInt.toNat = x207.toInt.toNat by omega]) ?_
          have q230 : w227 = w206 := by rw [ew227, ew223, ew226, ew206, ew201, ew205]
          refine m_callV (n := 2) (ci := 11) (st := []) C (c_X12_feedT l G τ210 (w227) (x209) i211 ) (by decide) (by decide) rfl rfl rfl q4_220 q4_217 q4_218 q4_219 q1_7 (by decide +kernel) rfl (by decide) ⟨by show (250 + 8 * y3.toInt.toNat) + 0 ≤ 600000; omega, by show (5300 + 24 * y3.toInt.toNat) + 0 ≤ 7302250; omega⟩ rfl (Nat.le_of_ble_eq_true rfl) dL_law_396 ?_
          rintro _ τ231 ⟨x234, rfl, i232, f233, b235, h237⟩
          have r238 : TR τ231 := r217.call f233 (by decide) (by decide)
          rw [q230] at h237
          have g239 := RT.feedB rτ tτ f212 f233 z219 h237
          have r240 : Rel τ231 := g239.1
          have r241 : RT τ231 := g239.2.1
          have q242 := g239.2.2
          have r243 : CA τ231 S I := r220.fr f233 (by decide) (by decide)
          have r244 : MA τ231 S I := r218.fr i211 f233 (by decide) (by decide)
          clear h237 z219
          show MW p l e _ s m _ below meth c _ 4 G (250 + 8 * y3.toInt.toNat) (5300 + 24 * y3.toInt.toNat) 399 [some (.ref b), some (.ref (G.1 0 0)), some (.ref (G.1 22 0)), some (.int y3)] [.int x234] τ231
          refine m_pop C dL_law_399 rfl ?_
          refine m_goto (tgt := 1028) C dL_law_400 (by decide) ?_
          obtain ⟨x245, ex245⟩ : ∃ y : Int32, y = y3 + 6 := ⟨_, rfl⟩
          have tx245 : x245.toInt = y3.toInt + 6 := by rw [ex245, ti_addv b8 kc_6 (by decide), kt_6]
          have b246 : IV x245 6 3072 := by rw [ex245]; exact iv_add b8 kc_6 (by decide)
          refine m_iinc (v := x245) (L1 := [some (.ref b), some (.ref (G.1 0 0)), some (.ref (G.1 22 0)), some (.int x245)]) C dL_law_1028 rfl (by rw [ex245]; rfl) (by decide) rfl rfl ?_
          refine m_goto (tgt := 18) C dL_law_1031 (by decide) ?_
          refine m_widen (c2 := 250 + 8 * x245.toInt.toNat) (s2 := 5300 + 24 * x245.toInt.toNat) (by omega) (by omega) ?_
          exact ih18 τ231 x245 S I i232 r240 r241 r243 r244 r238 (iv_wk b246 (by decide)) (by have q := hm18; omega)
        by_cases s247 : x11.toInt = 5
        · refine m_tableIn (tgt := 403) (off := 370) C dL_law_33 (by omega) (by omega) (by rw [s247]; rfl) (by decide) ?_
          have b248 : IV x11 5 5 := ⟨by omega, by omega⟩
          refine m_aload_n C dL_law_403 rfl rfl ?_
          obtain ⟨⟨T, N, hTC, hTM⟩, hTL⟩ := id tτ
          refine m_callV (n := 0) (ci := 10) (st := []) C (c_X11_towerS l G τ T N S I  iτ hTC cτ) (by decide) (by decide) rfl rfl rfl q2_51 q2_48 q2_49 q2_50 q1_1 (by decide +kernel) rfl (by decide) ⟨by show (250 + 8 * y3.toInt.toNat) + 8 ≤ 600000; omega, by show (5300 + 24 * y3.toInt.toNat) + 24 ≤ 7302250; omega⟩ rfl (Nat.le_of_ble_eq_true rfl) dL_law_404 ?_
          rintro _ τ249 ⟨x252, rfl, i250, f251, b253, h255⟩
          obtain ⟨h255, h255t0, h255t1⟩ := h255
          have r256 : TR τ249 := wτ.call f251 (by decide) (by decide)
          have r257 : MA τ249 S I := mτ.fr iτ f251 (by decide) (by decide)
          have z258 := Hid.mk h255
          clear h255
          show MW p l e _ s m _ below meth c _ 4 G ((250 + 8 * y3.toInt.toNat) + 8) ((5300 + 24 * y3.toInt.toNat) + 24) 407 [some (.ref b), some (.ref (G.1 0 0)), some (.ref (G.1 22 0)), some (.int y3)] [.int x252] τ249
          refine m_pop C dL_law_407 rfl ?_
          refine m_aload_n C dL_law_408 rfl rfl ?_
          have hTM2 := hTM.fr f251 (by decide) (by decide) (by simp) (by decide)
          refine m_callV (n := 0) (ci := 11) (st := []) C (c_X12_towerS l G τ249 T N S I  i250 hTM2 r257) (by decide) (by decide) rfl rfl rfl q4_227 q4_224 q4_225 q4_226 q1_7 (by decide +kernel) rfl (by decide) ⟨by show ((250 + 8 * y3.toInt.toNat) + 8) + 0 ≤ 600000; omega, by show ((5300 + 24 * y3.toInt.toNat) + 24) + 0 ≤ 7302250; omega⟩ rfl (Nat.le_of_ble_eq_true rfl) dL_law_409 ?_
          rintro _ τ259 ⟨x262, rfl, i260, f261, b263, h265⟩
          obtain ⟨h265, h265t0, h265t1⟩ := h265
          have r266 : TR τ259 := r256.call f261 (by decide) (by decide)
          have g267 := RT.towerB rτ tτ f251 f261 z258 h265
          have r268 : Rel τ259 := g267.1
          have r269 : RT τ259 := g267.2.1
          have q270 := g267.2.2
          obtain ⟨S271, h272, h273⟩ : ∃ S5, CA τ259 S5 I ∧ MA τ259 S5 I := by
            by_cases gF : outF T N = 0
            · exact ⟨_, (h255t1 gF).fr f261 (by decide) (by decide), h265t1 gF⟩
            · exact ⟨_, (h255t0 gF).fr f261 (by decide) (by decide), h265t0 gF⟩
          clear h255t0 h255t1 h265t0 h265t1
          clear h265 z258
          show MW p l e _ s m _ below meth c _ 4 G ((250 + 8 * y3.toInt.toNat) + 8) ((5300 + 24 * y3.toInt.toNat) + 24) 412 [some (.ref b), some (.ref (G.1 0 0)), some (.ref (G.1 22 0)), some (.int y3)] [.int x262] τ259
          refine m_pop C dL_law_412 rfl ?_
          refine m_goto (tgt := 1028) C dL_law_413 (by decide) ?_
          obtain ⟨x274, ex274⟩ : ∃ y : Int32, y = y3 + 6 := ⟨_, rfl⟩
          have tx274 : x274.toInt = y3.toInt + 6 := by rw [ex274, ti_addv b8 kc_6 (by decide), kt_6]
          have b275 : IV x274 6 3072 := by rw [ex274]; exact iv_add b8 kc_6 (by decide)
          refine m_iinc (v := x274) (L1 := [some (.ref b), some (.ref (G.1 0 0)), some (.ref (G.1 22 0)), some (.int x274)]) C dL_law_1028 rfl (by rw [ex274]; rfl) (by decide) rfl rfl ?_
          refine m_goto (tgt := 18) C dL_law_1031 (by decide) ?_
          refine m_widen (c2 := 250 + 8 * x274.toInt.toNat) (s2 := 5300 + 24 * x274.toInt.toNat) (by omega) (by omega) ?_
          exact ih18 τ259 x274 S271 I i260 r268 r269 h272 h273 r266 (iv_wk b275 (by decide)) (by have q := hm18; omega)
        by_cases s276 : x11.toInt = 6
        · refine m_tableIn (tgt := 416) (off := 383) C dL_law_33 (by omega) (by omega) (by rw [s276]; rfl) (by decide) ?_
          have b277 : IV x11 6 6 := ⟨by omega, by omega⟩
          refine m_aload_n C dL_law_416 rfl rfl ?_
          refine m_callV (n := 0) (ci := 10) (st := []) C (c_X11_faultT l G τ  iτ ) (by decide) (by decide) rfl rfl rfl q3_13 q3_10 q3_11 q3_12 q1_1 (by decide +kernel) rfl (by decide) ⟨by show (250 + 8 * y3.toInt.toNat) + 0 ≤ 600000; omega, by show (5300 + 24 * y3.toInt.toNat) + 0 ≤ 7302250; omega⟩ rfl (Nat.le_of_ble_eq_true rfl) dL_law_417 ?_
          rintro _ τ278 ⟨x281, rfl, i279, f280, b282, h284⟩
          have r285 : TR τ278 := wτ.call f280 (by decide) (by decide)
          have r286 : MA τ278 S I := mτ.fr iτ f280 (by decide) (by decide)
          have z287 := Hid.mk h284
          clear h284
          have r288 : Rel τ278 := rτ.call f280 (by decide) (by decide)
          have r289 : RT τ278 := tτ.call f280 (by decide) (by decide)
          have r290 : CA τ278 S I := cτ.fr f280 (by decide) (by decide)
          show MW p l e _ s m _ below meth c _ 4 G (250 + 8 * y3.toInt.toNat) (5300 + 24 * y3.toInt.toNat) 420 [some (.ref b), some (.ref (G.1 0 0)), some (.ref (G.1 22 0)), some (.int y3)] [.int x281] τ278
          refine m_pop C dL_law_420 rfl ?_
          refine m_aload_n C dL_law_421 rfl rfl ?_
          refine m_callV (n := 0) (ci := 11) (st := []) C (c_X12_faultT l G τ278  i279 ) (by decide) (by decide) rfl rfl rfl q5_42 q5_39 q5_40 q5_41 q1_7 (by decide +kernel) rfl (by decide) ⟨by show (250 + 8 * y3.toInt.toNat) + 0 ≤ 600000; omega, by show (5300 + 24 * y3.toInt.toNat) + 0 ≤ 7302250; omega⟩ rfl (Nat.le_of_ble_eq_true rfl) dL_law_422 ?_
          rintro _ τ291 ⟨x294, rfl, i292, f293, b295, h297⟩
          have r298 : TR τ291 := r285.call f293 (by decide) (by decide)
          have g299 := RT.faultB tτ f280 z287 h297
          have r300 : Rel τ291 := r288.call f293 (by decide) (by decide)
          have r301 : RT τ291 := r289.call f293 (by decide) (by decide)
          have r302 : CA τ291 S I := r290.fr f293 (by decide) (by decide)
          have r303 : MA τ291 S I := r286.fr i279 f293 (by decide) (by decide)
          clear h297 z287
          show MW p l e _ s m _ below meth c _ 4 G (250 + 8 * y3.toInt.toNat) (5300 + 24 * y3.toInt.toNat) 425 [some (.ref b), some (.ref (G.1 0 0)), some (.ref (G.1 22 0)), some (.int y3)] [.int x294] τ291
          refine m_pop C dL_law_425 rfl ?_
          refine m_goto (tgt := 1028) C dL_law_426 (by decide) ?_
          obtain ⟨x304, ex304⟩ : ∃ y : Int32, y = y3 + 6 := ⟨_, rfl⟩
          have tx304 : x304.toInt = y3.toInt + 6 := by rw [ex304, ti_addv b8 kc_6 (by decide), kt_6]
          have b305 : IV x304 6 3072 := by rw [ex304]; exact iv_add b8 kc_6 (by decide)
          refine m_iinc (v := x304) (L1 := [some (.ref b), some (.ref (G.1 0 0)), some (.ref (G.1 22 0)), some (.int x304)]) C dL_law_1028 rfl (by rw [ex304]; rfl) (by decide) rfl rfl ?_
          refine m_goto (tgt := 18) C dL_law_1031 (by decide) ?_
          refine m_widen (c2 := 250 + 8 * x304.toInt.toNat) (s2 := 5300 + 24 * x304.toInt.toNat) (by omega) (by omega) ?_
          exact ih18 τ291 x304 S I i292 r300 r301 r302 r303 r298 (iv_wk b305 (by decide)) (by have q := hm18; omega)
        by_cases s306 : x11.toInt = 7
        · refine m_tableIn (tgt := 429) (off := 396) C dL_law_33 (by omega) (by omega) (by rw [s306]; rfl) (by decide) ?_
          have b307 : IV x11 7 7 := ⟨by omega, by omega⟩
          refine m_aload_n C dL_law_429 rfl rfl ?_
          refine m_aload_n C dL_law_430 rfl rfl ?_
          refine m_iload_n C dL_law_431 rfl rfl ?_
          refine m_iconst (v := 1) C dL_law_432 (by decide) ?_
          refine m_iadd C dL_law_433 ?_
          refine m_topi (fun x308 ex308 => ?_)
          have tx308 : x308.toInt = y3.toInt + 1 := by rw [ex308, ti_addv b8 kc_1 (by decide), kt_1]
          have b309 : IV x308 1 3067 := by rw [ex308]; exact iv_add b8 kc_1 (by decide)
          refine m_sld C hX hbl hbA ⟨by omega, by omega⟩ dL_law_434 ?_
          refine m_topi (fun x310 ex310 => ?_)
          refine m_aload_n C dL_law_435 rfl rfl ?_
          refine m_iload_n C dL_law_436 rfl rfl ?_
          refine m_iconst (v := 2) C dL_law_437 (by decide) ?_
          refine m_iadd C dL_law_438 ?_
          refine m_topi (fun x311 ex311 => ?_)
          have tx311 : x311.toInt = y3.toInt + 2 := by rw [ex311, ti_addv b8 kc_2 (by decide), kt_2]
          have b312 : IV x311 2 3068 := by rw [ex311]; exact iv_add b8 kc_2 (by decide)
          refine m_sld C hX hbl hbA ⟨by omega, by omega⟩ dL_law_439 ?_
          refine m_topi (fun x313 ex313 => ?_)
          refine m_callV (n := 2) (ci := 10) (st := []) C (c_X11_goS l G τ S I (x310) (x313) iτ cτ) (by decide) (by decide) rfl rfl rfl q3_17 q3_14 q3_15 q3_16 q1_1 (by decide +kernel) rfl (by decide) ⟨by show (250 + 8 * y3.toInt.toNat) + 0 ≤ 600000; omega, by show (5300 + 24 * y3.toInt.toNat) + 0 ≤ 7302250; omega⟩ rfl (Nat.le_of_ble_eq_true rfl) dL_law_440 ?_
          rintro _ τ314 ⟨x317, rfl, i315, f316, b318, h320⟩
          have r321 : TR τ314 := wτ.call f316 (by decide) (by decide)
          have r322 : MA τ314 S I := mτ.fr iτ f316 (by decide) (by decide)
          have r323 : Rel τ314 := rτ.call f316 (by decide) (by decide)
          have r324 : RT τ314 := tτ.call f316 (by decide) (by decide)
          have r325 : CA τ314 S I := h320
          show MW p l e _ s m _ below meth c _ 4 G (250 + 8 * y3.toInt.toNat) (5300 + 24 * y3.toInt.toNat) 443 [some (.ref b), some (.ref (G.1 0 0)), some (.ref (G.1 22 0)), some (.int y3)] [.int x317] τ314
          refine m_pop C dL_law_443 rfl ?_
          refine m_aload_n C dL_law_444 rfl rfl ?_
          refine m_aload_n C dL_law_445 rfl rfl ?_
          refine m_iload_n C dL_law_446 rfl rfl ?_
          refine m_iconst (v := 1) C dL_law_447 (by decide) ?_
          refine m_iadd C dL_law_448 ?_
          refine m_topi (fun x326 ex326 => ?_)
          have tx326 : x326.toInt = y3.toInt + 1 := by rw [ex326, ti_addv b8 kc_1 (by decide), kt_1]
          have b327 : IV x326 1 3067 := by rw [ex326]; exact iv_add b8 kc_1 (by decide)
          refine m_sld C hX hbl hbA ⟨by omega, by omega⟩ dL_law_449 ?_
          refine m_eqs (w := x310) (by rw [ex310, show x326.toInt.toNat = x308.toInt.toNat by omega]) ?_
          refine m_aload_n C dL_law_450 rfl rfl ?_
          refine m_iload_n C dL_law_451 rfl rfl ?_
          refine m_iconst (v := 2) C dL_law_452 (by decide) ?_
          refine m_iadd C dL_law_453 ?_
          refine m_topi (fun x328 ex328 => ?_)
          have tx328 : x328.toInt = y3.toInt + 2 := by rw [ex328, ti_addv b8 kc_2 (by decide), kt_2]
          have b329 : IV x328 2 3068 := by rw [ex328]; exact iv_add b8 kc_2 (by decide)
          refine m_sld C hX hbl hbA ⟨by omega, by omega⟩ dL_law_454 ?_
          refine m_eqs (w := x313) (by rw [ex313, show x328.toInt.toNat = x311.toInt.toNat by omega]) ?_
          refine m_callV (n := 2) (ci := 11) (st := []) C (c_X12_goS l G τ314 S I (x310) (x313) i315 r322) (by decide) (by decide) rfl rfl rfl q5_46 q5_43 q5_44 q5_45 q1_7 (by decide +kernel) rfl (by decide) ⟨by show (250 + 8 * y3.toInt.toNat) + 0 ≤ 600000; omega, by show (5300 + 24 * y3.toInt.toNat) + 0 ≤ 7302250; omega⟩ rfl (Nat.le_of_ble_eq_true rfl) dL_law_455 ?_
          rintro _ τ330 ⟨x333, rfl, i331, f332, b334, h336⟩
          have r337 : TR τ330 := r321.call f332 (by decide) (by decide)
          have r338 : Rel τ330 := r323.call f332 (by decide) (by decide)
          have r339 : RT τ330 := r324.call f332 (by decide) (by decide)
          have r340 : CA τ330 S I := r325.fr f332 (by decide) (by decide)
          have r341 : MA τ330 S I := h336
          show MW p l e _ s m _ below meth c _ 4 G (250 + 8 * y3.toInt.toNat) (5300 + 24 * y3.toInt.toNat) 458 [some (.ref b), some (.ref (G.1 0 0)), some (.ref (G.1 22 0)), some (.int y3)] [.int x333] τ330
          refine m_pop C dL_law_458 rfl ?_
          refine m_goto (tgt := 1028) C dL_law_459 (by decide) ?_
          obtain ⟨x342, ex342⟩ : ∃ y : Int32, y = y3 + 6 := ⟨_, rfl⟩
          have tx342 : x342.toInt = y3.toInt + 6 := by rw [ex342, ti_addv b8 kc_6 (by decide), kt_6]
          have b343 : IV x342 6 3072 := by rw [ex342]; exact iv_add b8 kc_6 (by decide)
          refine m_iinc (v := x342) (L1 := [some (.ref b), some (.ref (G.1 0 0)), some (.ref (G.1 22 0)), some (.int x342)]) C dL_law_1028 rfl (by rw [ex342]; rfl) (by decide) rfl rfl ?_
          refine m_goto (tgt := 18) C dL_law_1031 (by decide) ?_
          refine m_widen (c2 := 250 + 8 * x342.toInt.toNat) (s2 := 5300 + 24 * x342.toInt.toNat) (by omega) (by omega) ?_
          exact ih18 τ330 x342 S I i331 r338 r339 r340 r341 r337 (iv_wk b343 (by decide)) (by have q := hm18; omega)
        by_cases s344 : x11.toInt = 8
        · refine m_tableIn (tgt := 462) (off := 429) C dL_law_33 (by omega) (by omega) (by rw [s344]; rfl) (by decide) ?_
          have b345 : IV x11 8 8 := ⟨by omega, by omega⟩
          refine m_aload_n C dL_law_462 rfl rfl ?_
          refine m_aload_n C dL_law_463 rfl rfl ?_
          refine m_iload_n C dL_law_464 rfl rfl ?_
          refine m_iconst (v := 1) C dL_law_465 (by decide) ?_
          refine m_iadd C dL_law_466 ?_
          refine m_topi (fun x346 ex346 => ?_)
          have tx346 : x346.toInt = y3.toInt + 1 := by rw [ex346, ti_addv b8 kc_1 (by decide), kt_1]
          have b347 : IV x346 1 3067 := by rw [ex346]; exact iv_add b8 kc_1 (by decide)
          refine m_sld C hX hbl hbA ⟨by omega, by omega⟩ dL_law_467 ?_
          refine m_topi (fun x348 ex348 => ?_)
          refine m_aload_n C dL_law_468 rfl rfl ?_
          refine m_iload_n C dL_law_469 rfl rfl ?_
          refine m_iconst (v := 2) C dL_law_470 (by decide) ?_
          refine m_iadd C dL_law_471 ?_
          refine m_topi (fun x349 ex349 => ?_)
          have tx349 : x349.toInt = y3.toInt + 2 := by rw [ex349, ti_addv b8 kc_2 (by decide), kt_2]
          have b350 : IV x349 2 3068 := by rw [ex349]; exact iv_add b8 kc_2 (by decide)
          refine m_sld C hX hbl hbA ⟨by omega, by omega⟩ dL_law_472 ?_
          refine m_topi (fun x351 ex351 => ?_)
          refine m_callV (n := 2) (ci := 10) (st := []) C (c_X11_hangS l G τ S I (x348) (x351) iτ cτ) (by decide) (by decide) rfl rfl rfl q3_29 q3_26 q3_27 q3_28 q1_1 (by decide +kernel) rfl (by decide) ⟨by show (250 + 8 * y3.toInt.toNat) + 0 ≤ 600000; omega, by show (5300 + 24 * y3.toInt.toNat) + 0 ≤ 7302250; omega⟩ rfl (Nat.le_of_ble_eq_true rfl) dL_law_473 ?_
          rintro _ τ352 ⟨x355, rfl, i353, f354, b356, h358⟩
          have r359 : TR τ352 := wτ.call f354 (by decide) (by decide)
          have r360 : MA τ352 S I := mτ.fr iτ f354 (by decide) (by decide)
          have r361 : Rel τ352 := rτ.call f354 (by decide) (by decide)
          have r362 : RT τ352 := tτ.call f354 (by decide) (by decide)
          have r363 : CA τ352 S I := h358
          show MW p l e _ s m _ below meth c _ 4 G (250 + 8 * y3.toInt.toNat) (5300 + 24 * y3.toInt.toNat) 476 [some (.ref b), some (.ref (G.1 0 0)), some (.ref (G.1 22 0)), some (.int y3)] [.int x355] τ352
          refine m_pop C dL_law_476 rfl ?_
          refine m_aload_n C dL_law_477 rfl rfl ?_
          refine m_aload_n C dL_law_478 rfl rfl ?_
          refine m_iload_n C dL_law_479 rfl rfl ?_
          refine m_iconst (v := 1) C dL_law_480 (by decide) ?_
          refine m_iadd C dL_law_481 ?_
          refine m_topi (fun x364 ex364 => ?_)
          have tx364 : x364.toInt = y3.toInt + 1 := by rw [ex364, ti_addv b8 kc_1 (by decide), kt_1]
          have b365 : IV x364 1 3067 := by rw [ex364]; exact iv_add b8 kc_1 (by decide)
          refine m_sld C hX hbl hbA ⟨by omega, by omega⟩ dL_law_482 ?_
          refine m_eqs (w := x348) (by rw [ex348, show x364.toInt.toNat = x346.toInt.toNat by omega]) ?_
          refine m_aload_n C dL_law_483 rfl rfl ?_
          refine m_iload_n C dL_law_484 rfl rfl ?_
          refine m_iconst (v := 2) C dL_law_485 (by decide) ?_
          refine m_iadd C dL_law_486 ?_
          refine m_topi (fun x366 ex366 => ?_)
          have tx366 : x366.toInt = y3.toInt + 2 := by rw [ex366, ti_addv b8 kc_2 (by decide), kt_2]
          have b367 : IV x366 2 3068 := by rw [ex366]; exact iv_add b8 kc_2 (by decide)
          refine m_sld C hX hbl hbA ⟨by omega, by omega⟩ dL_law_487 ?_
          refine m_eqs (w := x351) (by rw [ex351, show x366.toInt.toNat = x349.toInt.toNat by omega]) ?_
          refine m_callV (n := 2) (ci := 11) (st := []) C (c_X12_hangS l G τ352 S I (x348) (x351) i353 r360) (by decide) (by decide) rfl rfl rfl q5_58 q5_55 q5_56 q5_57 q1_7 (by decide +kernel) rfl (by decide) ⟨by show (250 + 8 * y3.toInt.toNat) + 0 ≤ 600000; omega, by show (5300 + 24 * y3.toInt.toNat) + 0 ≤ 7302250; omega⟩ rfl (Nat.le_of_ble_eq_true rfl) dL_law_488 ?_
          rintro _ τ368 ⟨x371, rfl, i369, f370, b372, h374⟩
          have r375 : TR τ368 := r359.call f370 (by decide) (by decide)
          have r376 : Rel τ368 := r361.call f370 (by decide) (by decide)
          have r377 : RT τ368 := r362.call f370 (by decide) (by decide)
          have r378 : CA τ368 S I := r363.fr f370 (by decide) (by decide)
          have r379 : MA τ368 S I := h374
          show MW p l e _ s m _ below meth c _ 4 G (250 + 8 * y3.toInt.toNat) (5300 + 24 * y3.toInt.toNat) 491 [some (.ref b), some (.ref (G.1 0 0)), some (.ref (G.1 22 0)), some (.int y3)] [.int x371] τ368
          refine m_pop C dL_law_491 rfl ?_
          refine m_goto (tgt := 1028) C dL_law_492 (by decide) ?_
          obtain ⟨x380, ex380⟩ : ∃ y : Int32, y = y3 + 6 := ⟨_, rfl⟩
          have tx380 : x380.toInt = y3.toInt + 6 := by rw [ex380, ti_addv b8 kc_6 (by decide), kt_6]
          have b381 : IV x380 6 3072 := by rw [ex380]; exact iv_add b8 kc_6 (by decide)
          refine m_iinc (v := x380) (L1 := [some (.ref b), some (.ref (G.1 0 0)), some (.ref (G.1 22 0)), some (.int x380)]) C dL_law_1028 rfl (by rw [ex380]; rfl) (by decide) rfl rfl ?_
          refine m_goto (tgt := 18) C dL_law_1031 (by decide) ?_
          refine m_widen (c2 := 250 + 8 * x380.toInt.toNat) (s2 := 5300 + 24 * x380.toInt.toNat) (by omega) (by omega) ?_
          exact ih18 τ368 x380 S I i369 r376 r377 r378 r379 r375 (iv_wk b381 (by decide)) (by have q := hm18; omega)
        by_cases s382 : x11.toInt = 9
        · refine m_tableIn (tgt := 495) (off := 462) C dL_law_33 (by omega) (by omega) (by rw [s382]; rfl) (by decide) ?_
          have b383 : IV x11 9 9 := ⟨by omega, by omega⟩
          refine m_aload_n C dL_law_495 rfl rfl ?_
          refine m_aload_n C dL_law_496 rfl rfl ?_
          refine m_iload_n C dL_law_497 rfl rfl ?_
          refine m_iconst (v := 1) C dL_law_498 (by decide) ?_
          refine m_iadd C dL_law_499 ?_
          refine m_topi (fun x384 ex384 => ?_)
          have tx384 : x384.toInt = y3.toInt + 1 := by rw [ex384, ti_addv b8 kc_1 (by decide), kt_1]
          have b385 : IV x384 1 3067 := by rw [ex384]; exact iv_add b8 kc_1 (by decide)
          refine m_sld C hX hbl hbA ⟨by omega, by omega⟩ dL_law_500 ?_
          refine m_topi (fun x386 ex386 => ?_)
          refine m_callV (n := 1) (ci := 10) (st := []) C (c_X11_halvesS l G τ S I (x386) iτ cτ) (by decide) (by decide) rfl rfl rfl q3_37 q3_34 q3_35 q3_36 q1_1 (by decide +kernel) rfl (by decide) ⟨by show (250 + 8 * y3.toInt.toNat) + 0 ≤ 600000; omega, by show (5300 + 24 * y3.toInt.toNat) + 0 ≤ 7302250; omega⟩ rfl (Nat.le_of_ble_eq_true rfl) dL_law_501 ?_
          rintro _ τ387 ⟨x390, rfl, i388, f389, b391, h393⟩
          have r394 : TR τ387 := wτ.call f389 (by decide) (by decide)
          have r395 : MA τ387 S I := mτ.fr iτ f389 (by decide) (by decide)
          have r396 : Rel τ387 := rτ.call f389 (by decide) (by decide)
          have r397 : RT τ387 := tτ.call f389 (by decide) (by decide)
          have r398 : CA τ387 S I := h393
          show MW p l e _ s m _ below meth c _ 4 G (250 + 8 * y3.toInt.toNat) (5300 + 24 * y3.toInt.toNat) 504 [some (.ref b), some (.ref (G.1 0 0)), some (.ref (G.1 22 0)), some (.int y3)] [.int x390] τ387
          refine m_pop C dL_law_504 rfl ?_
          refine m_aload_n C dL_law_505 rfl rfl ?_
          refine m_aload_n C dL_law_506 rfl rfl ?_
          refine m_iload_n C dL_law_507 rfl rfl ?_
          refine m_iconst (v := 1) C dL_law_508 (by decide) ?_
          refine m_iadd C dL_law_509 ?_
          refine m_topi (fun x399 ex399 => ?_)
          have tx399 : x399.toInt = y3.toInt + 1 := by rw [ex399, ti_addv b8 kc_1 (by decide), kt_1]
          have b400 : IV x399 1 3067 := by rw [ex399]; exact iv_add b8 kc_1 (by decide)
          refine m_sld C hX hbl hbA ⟨by omega, by omega⟩ dL_law_510 ?_
          refine m_eqs (w := x386) (by rw [ex386, show x399.toInt.toNat = x384.toInt.toNat by omega]) ?_
          refine m_callV (n := 1) (ci := 11) (st := []) C (c_X12_halvesS l G τ387 S I (x386) i388 r395) (by decide) (by decide) rfl rfl rfl q5_63 q5_60 q5_61 q5_62 q1_7 (by decide +kernel) rfl (by decide) ⟨by show (250 + 8 * y3.toInt.toNat) + 0 ≤ 600000; omega, by show (5300 + 24 * y3.toInt.toNat) + 0 ≤ 7302250; omega⟩ rfl (Nat.le_of_ble_eq_true rfl) dL_law_511 ?_
          rintro _ τ401 ⟨x404, rfl, i402, f403, b405, h407⟩
          have r408 : TR τ401 := r394.call f403 (by decide) (by decide)
          have r409 : Rel τ401 := r396.call f403 (by decide) (by decide)
          have r410 : RT τ401 := r397.call f403 (by decide) (by decide)
          have r411 : CA τ401 S I := r398.fr f403 (by decide) (by decide)
          have r412 : MA τ401 S I := h407
          show MW p l e _ s m _ below meth c _ 4 G (250 + 8 * y3.toInt.toNat) (5300 + 24 * y3.toInt.toNat) 514 [some (.ref b), some (.ref (G.1 0 0)), some (.ref (G.1 22 0)), some (.int y3)] [.int x404] τ401
          refine m_pop C dL_law_514 rfl ?_
          refine m_goto (tgt := 1028) C dL_law_515 (by decide) ?_
          obtain ⟨x413, ex413⟩ : ∃ y : Int32, y = y3 + 6 := ⟨_, rfl⟩
          have tx413 : x413.toInt = y3.toInt + 6 := by rw [ex413, ti_addv b8 kc_6 (by decide), kt_6]
          have b414 : IV x413 6 3072 := by rw [ex413]; exact iv_add b8 kc_6 (by decide)
          refine m_iinc (v := x413) (L1 := [some (.ref b), some (.ref (G.1 0 0)), some (.ref (G.1 22 0)), some (.int x413)]) C dL_law_1028 rfl (by rw [ex413]; rfl) (by decide) rfl rfl ?_
          refine m_goto (tgt := 18) C dL_law_1031 (by decide) ?_
          refine m_widen (c2 := 250 + 8 * x413.toInt.toNat) (s2 := 5300 + 24 * x413.toInt.toNat) (by omega) (by omega) ?_
          exact ih18 τ401 x413 S I i402 r409 r410 r411 r412 r408 (iv_wk b414 (by decide)) (by have q := hm18; omega)
        by_cases s415 : x11.toInt = 10
        · refine m_tableIn (tgt := 518) (off := 485) C dL_law_33 (by omega) (by omega) (by rw [s415]; rfl) (by decide) ?_
          have b416 : IV x11 10 10 := ⟨by omega, by omega⟩
          refine m_aload_n C dL_law_518 rfl rfl ?_
          refine m_callV (n := 0) (ci := 10) (st := []) C (c_X11_yearS l G τ S I  iτ cτ) (by decide) (by decide) rfl rfl rfl q3_97 q3_94 q3_95 q3_96 q1_1 (by decide +kernel) rfl (by decide) ⟨by show (250 + 8 * y3.toInt.toNat) + 0 ≤ 600000; omega, by show (5300 + 24 * y3.toInt.toNat) + 0 ≤ 7302250; omega⟩ rfl (Nat.le_of_ble_eq_true rfl) dL_law_519 ?_
          rintro _ τ417 ⟨x420, rfl, i418, f419, b421, h423⟩
          have r424 : TR τ417 := wτ.call f419 (by decide) (by decide)
          have r425 : MA τ417 S I := mτ.fr iτ f419 (by decide) (by decide)
          have r426 : Rel τ417 := rτ.call f419 (by decide) (by decide)
          have r427 : RT τ417 := tτ.call f419 (by decide) (by decide)
          have r428 : CA τ417 S I := h423
          show MW p l e _ s m _ below meth c _ 4 G (250 + 8 * y3.toInt.toNat) (5300 + 24 * y3.toInt.toNat) 522 [some (.ref b), some (.ref (G.1 0 0)), some (.ref (G.1 22 0)), some (.int y3)] [.int x420] τ417
          refine m_pop C dL_law_522 rfl ?_
          refine m_aload_n C dL_law_523 rfl rfl ?_
          refine m_callV (n := 0) (ci := 11) (st := []) C (c_X12_yearS l G τ417 S I  i418 r425) (by decide) (by decide) rfl rfl rfl q5_103 q5_100 q5_101 q5_102 q1_7 (by decide +kernel) rfl (by decide) ⟨by show (250 + 8 * y3.toInt.toNat) + 0 ≤ 600000; omega, by show (5300 + 24 * y3.toInt.toNat) + 0 ≤ 7302250; omega⟩ rfl (Nat.le_of_ble_eq_true rfl) dL_law_524 ?_
          rintro _ τ429 ⟨x432, rfl, i430, f431, b433, h435⟩
          have r436 : TR τ429 := r424.call f431 (by decide) (by decide)
          have r437 : Rel τ429 := r426.call f431 (by decide) (by decide)
          have r438 : RT τ429 := r427.call f431 (by decide) (by decide)
          have r439 : CA τ429 S I := r428.fr f431 (by decide) (by decide)
          have r440 : MA τ429 S I := h435
          show MW p l e _ s m _ below meth c _ 4 G (250 + 8 * y3.toInt.toNat) (5300 + 24 * y3.toInt.toNat) 527 [some (.ref b), some (.ref (G.1 0 0)), some (.ref (G.1 22 0)), some (.int y3)] [.int x432] τ429
          refine m_pop C dL_law_527 rfl ?_
          refine m_goto (tgt := 1028) C dL_law_528 (by decide) ?_
          obtain ⟨x441, ex441⟩ : ∃ y : Int32, y = y3 + 6 := ⟨_, rfl⟩
          have tx441 : x441.toInt = y3.toInt + 6 := by rw [ex441, ti_addv b8 kc_6 (by decide), kt_6]
          have b442 : IV x441 6 3072 := by rw [ex441]; exact iv_add b8 kc_6 (by decide)
          refine m_iinc (v := x441) (L1 := [some (.ref b), some (.ref (G.1 0 0)), some (.ref (G.1 22 0)), some (.int x441)]) C dL_law_1028 rfl (by rw [ex441]; rfl) (by decide) rfl rfl ?_
          refine m_goto (tgt := 18) C dL_law_1031 (by decide) ?_
          refine m_widen (c2 := 250 + 8 * x441.toInt.toNat) (s2 := 5300 + 24 * x441.toInt.toNat) (by omega) (by omega) ?_
          exact ih18 τ429 x441 S I i430 r437 r438 r439 r440 r436 (iv_wk b442 (by decide)) (by have q := hm18; omega)
        by_cases s443 : x11.toInt = 11
        · refine m_tableIn (tgt := 531) (off := 498) C dL_law_33 (by omega) (by omega) (by rw [s443]; rfl) (by decide) ?_
          have b444 : IV x11 11 11 := ⟨by omega, by omega⟩
          refine m_aload_n C dL_law_531 rfl rfl ?_
          refine m_callV (n := 0) (ci := 10) (st := []) C (c_X11_undoS l G τ S I  iτ cτ) (by decide) (by decide) rfl rfl rfl q3_106 q3_103 q3_104 q3_105 q1_1 (by decide +kernel) rfl (by decide) ⟨by show (250 + 8 * y3.toInt.toNat) + 0 ≤ 600000; omega, by show (5300 + 24 * y3.toInt.toNat) + 0 ≤ 7302250; omega⟩ rfl (Nat.le_of_ble_eq_true rfl) dL_law_532 ?_
          rintro _ τ445 ⟨x448, rfl, i446, f447, b449, h451⟩
          have r452 : TR τ445 := wτ.call f447 (by decide) (by decide)
          have r453 : MA τ445 S I := mτ.fr iτ f447 (by decide) (by decide)
          have r454 : Rel τ445 := rτ.call f447 (by decide) (by decide)
          have r455 : RT τ445 := tτ.call f447 (by decide) (by decide)
          have r456 : CA τ445 S I := h451
          show MW p l e _ s m _ below meth c _ 4 G (250 + 8 * y3.toInt.toNat) (5300 + 24 * y3.toInt.toNat) 535 [some (.ref b), some (.ref (G.1 0 0)), some (.ref (G.1 22 0)), some (.int y3)] [.int x448] τ445
          refine m_pop C dL_law_535 rfl ?_
          refine m_aload_n C dL_law_536 rfl rfl ?_
          refine m_callV (n := 0) (ci := 11) (st := []) C (c_X12_undoS l G τ445 S I  i446 r453) (by decide) (by decide) rfl rfl rfl q5_111 q5_108 q5_109 q5_110 q1_7 (by decide +kernel) rfl (by decide) ⟨by show (250 + 8 * y3.toInt.toNat) + 0 ≤ 600000; omega, by show (5300 + 24 * y3.toInt.toNat) + 0 ≤ 7302250; omega⟩ rfl (Nat.le_of_ble_eq_true rfl) dL_law_537 ?_
          rintro _ τ457 ⟨x460, rfl, i458, f459, b461, h463⟩
          have r464 : TR τ457 := r452.call f459 (by decide) (by decide)
          have r465 : Rel τ457 := r454.call f459 (by decide) (by decide)
          have r466 : RT τ457 := r455.call f459 (by decide) (by decide)
          have r467 : CA τ457 S I := r456.fr f459 (by decide) (by decide)
          have r468 : MA τ457 S I := h463
          show MW p l e _ s m _ below meth c _ 4 G (250 + 8 * y3.toInt.toNat) (5300 + 24 * y3.toInt.toNat) 540 [some (.ref b), some (.ref (G.1 0 0)), some (.ref (G.1 22 0)), some (.int y3)] [.int x460] τ457
          refine m_pop C dL_law_540 rfl ?_
          refine m_goto (tgt := 1028) C dL_law_541 (by decide) ?_
          obtain ⟨x469, ex469⟩ : ∃ y : Int32, y = y3 + 6 := ⟨_, rfl⟩
          have tx469 : x469.toInt = y3.toInt + 6 := by rw [ex469, ti_addv b8 kc_6 (by decide), kt_6]
          have b470 : IV x469 6 3072 := by rw [ex469]; exact iv_add b8 kc_6 (by decide)
          refine m_iinc (v := x469) (L1 := [some (.ref b), some (.ref (G.1 0 0)), some (.ref (G.1 22 0)), some (.int x469)]) C dL_law_1028 rfl (by rw [ex469]; rfl) (by decide) rfl rfl ?_
          refine m_goto (tgt := 18) C dL_law_1031 (by decide) ?_
          refine m_widen (c2 := 250 + 8 * x469.toInt.toNat) (s2 := 5300 + 24 * x469.toInt.toNat) (by omega) (by omega) ?_
          exact ih18 τ457 x469 S I i458 r465 r466 r467 r468 r464 (iv_wk b470 (by decide)) (by have q := hm18; omega)
        by_cases s471 : x11.toInt = 12
        · refine m_tableIn (tgt := 544) (off := 511) C dL_law_33 (by omega) (by omega) (by rw [s471]; rfl) (by decide) ?_
          have b472 : IV x11 12 12 := ⟨by omega, by omega⟩
          refine m_aload_n C dL_law_544 rfl rfl ?_
          refine m_aload_n C dL_law_545 rfl rfl ?_
          refine m_iload_n C dL_law_546 rfl rfl ?_
          refine m_iconst (v := 1) C dL_law_547 (by decide) ?_
          refine m_iadd C dL_law_548 ?_
          refine m_topi (fun x473 ex473 => ?_)
          have tx473 : x473.toInt = y3.toInt + 1 := by rw [ex473, ti_addv b8 kc_1 (by decide), kt_1]
          have b474 : IV x473 1 3067 := by rw [ex473]; exact iv_add b8 kc_1 (by decide)
          refine m_sld C hX hbl hbA ⟨by omega, by omega⟩ dL_law_549 ?_
          refine m_topi (fun x475 ex475 => ?_)
          refine m_aload_n C dL_law_550 rfl rfl ?_
          refine m_iload_n C dL_law_551 rfl rfl ?_
          refine m_iconst (v := 2) C dL_law_552 (by decide) ?_
          refine m_iadd C dL_law_553 ?_
          refine m_topi (fun x476 ex476 => ?_)
          have tx476 : x476.toInt = y3.toInt + 2 := by rw [ex476, ti_addv b8 kc_2 (by decide), kt_2]
          have b477 : IV x476 2 3068 := by rw [ex476]; exact iv_add b8 kc_2 (by decide)
          refine m_sld C hX hbl hbA ⟨by omega, by omega⟩ dL_law_554 ?_
          refine m_topi (fun x478 ex478 => ?_)
          refine m_callV (n := 2) (ci := 10) (st := []) C (c_X11_person l G τ (x475) (x478) iτ ) (by decide) (by decide) rfl rfl rfl q3_110 q3_107 q3_108 q3_109 q1_1 (by decide +kernel) rfl (by decide) ⟨by show (250 + 8 * y3.toInt.toNat) + 0 ≤ 600000; omega, by show (5300 + 24 * y3.toInt.toNat) + 0 ≤ 7302250; omega⟩ rfl (Nat.le_of_ble_eq_true rfl) dL_law_555 ?_
          rintro _ τ479 ⟨x482, rfl, i480, f481, b483⟩
          have r486 : TR τ479 := wτ.call f481 (by decide) (by decide)
          have r487 : MA τ479 S I := mτ.fr iτ f481 (by decide) (by decide)
          have r488 : Rel τ479 := rτ.call f481 (by decide) (by decide)
          have r489 : RT τ479 := tτ.call f481 (by decide) (by decide)
          have r490 : CA τ479 S I := cτ.fr f481 (by decide) (by decide)
          show MW p l e _ s m _ below meth c _ 4 G (250 + 8 * y3.toInt.toNat) (5300 + 24 * y3.toInt.toNat) 558 [some (.ref b), some (.ref (G.1 0 0)), some (.ref (G.1 22 0)), some (.int y3)] [.int x482] τ479
          refine m_pop C dL_law_558 rfl ?_
          refine m_aload_n C dL_law_559 rfl rfl ?_
          refine m_aload_n C dL_law_560 rfl rfl ?_
          refine m_iload_n C dL_law_561 rfl rfl ?_
          refine m_iconst (v := 1) C dL_law_562 (by decide) ?_
          refine m_iadd C dL_law_563 ?_
          refine m_topi (fun x491 ex491 => ?_)
          have tx491 : x491.toInt = y3.toInt + 1 := by rw [ex491, ti_addv b8 kc_1 (by decide), kt_1]
          have b492 : IV x491 1 3067 := by rw [ex491]; exact iv_add b8 kc_1 (by decide)
          refine m_sld C hX hbl hbA ⟨by omega, by omega⟩ dL_law_564 ?_
          refine m_eqs (w := x475) (by rw [ex475, show x491.toInt.toNat = x473.toInt.toNat by omega]) ?_
          refine m_aload_n C dL_law_565 rfl rfl ?_
          refine m_iload_n C dL_law_566 rfl rfl ?_
          refine m_iconst (v := 2) C dL_law_567 (by decide) ?_
          refine m_iadd C dL_law_568 ?_
          refine m_topi (fun x493 ex493 => ?_)
          have tx493 : x493.toInt = y3.toInt + 2 := by rw [ex493, ti_addv b8 kc_2 (by decide), kt_2]
          have b494 : IV x493 2 3068 := by rw [ex493]; exact iv_add b8 kc_2 (by decide)
          refine m_sld C hX hbl hbA ⟨by omega, by omega⟩ dL_law_569 ?_
          refine m_eqs (w := x478) (by rw [ex478, show x493.toInt.toNat = x476.toInt.toNat by omega]) ?_
          refine m_callV (n := 2) (ci := 11) (st := []) C (c_X12_person l G τ479 (x475) (x478) i480 ) (by decide) (by decide) rfl rfl rfl q5_115 q5_112 q5_113 q5_114 q1_7 (by decide +kernel) rfl (by decide) ⟨by show (250 + 8 * y3.toInt.toNat) + 0 ≤ 600000; omega, by show (5300 + 24 * y3.toInt.toNat) + 0 ≤ 7302250; omega⟩ rfl (Nat.le_of_ble_eq_true rfl) dL_law_570 ?_
          rintro _ τ495 ⟨x498, rfl, i496, f497, b499⟩
          have r502 : TR τ495 := r486.call f497 (by decide) (by decide)
          have r503 : Rel τ495 := r488.call f497 (by decide) (by decide)
          have r504 : RT τ495 := r489.call f497 (by decide) (by decide)
          have r505 : CA τ495 S I := r490.fr f497 (by decide) (by decide)
          have r506 : MA τ495 S I := r487.fr i480 f497 (by decide) (by decide)
          show MW p l e _ s m _ below meth c _ 4 G (250 + 8 * y3.toInt.toNat) (5300 + 24 * y3.toInt.toNat) 573 [some (.ref b), some (.ref (G.1 0 0)), some (.ref (G.1 22 0)), some (.int y3)] [.int x498] τ495
          refine m_pop C dL_law_573 rfl ?_
          refine m_goto (tgt := 1028) C dL_law_574 (by decide) ?_
          obtain ⟨x507, ex507⟩ : ∃ y : Int32, y = y3 + 6 := ⟨_, rfl⟩
          have tx507 : x507.toInt = y3.toInt + 6 := by rw [ex507, ti_addv b8 kc_6 (by decide), kt_6]
          have b508 : IV x507 6 3072 := by rw [ex507]; exact iv_add b8 kc_6 (by decide)
          refine m_iinc (v := x507) (L1 := [some (.ref b), some (.ref (G.1 0 0)), some (.ref (G.1 22 0)), some (.int x507)]) C dL_law_1028 rfl (by rw [ex507]; rfl) (by decide) rfl rfl ?_
          refine m_goto (tgt := 18) C dL_law_1031 (by decide) ?_
          refine m_widen (c2 := 250 + 8 * x507.toInt.toNat) (s2 := 5300 + 24 * x507.toInt.toNat) (by omega) (by omega) ?_
          exact ih18 τ495 x507 S I i496 r503 r504 r505 r506 r502 (iv_wk b508 (by decide)) (by have q := hm18; omega)
        by_cases s509 : x11.toInt = 13
        · refine m_tableIn (tgt := 577) (off := 544) C dL_law_33 (by omega) (by omega) (by rw [s509]; rfl) (by decide) ?_
          have b510 : IV x11 13 13 := ⟨by omega, by omega⟩
          refine m_aload_n C dL_law_577 rfl rfl ?_
          refine m_aload_n C dL_law_578 rfl rfl ?_
          refine m_iload_n C dL_law_579 rfl rfl ?_
          refine m_iconst (v := 1) C dL_law_580 (by decide) ?_
          refine m_iadd C dL_law_581 ?_
          refine m_topi (fun x511 ex511 => ?_)
          have tx511 : x511.toInt = y3.toInt + 1 := by rw [ex511, ti_addv b8 kc_1 (by decide), kt_1]
          have b512 : IV x511 1 3067 := by rw [ex511]; exact iv_add b8 kc_1 (by decide)
          refine m_sld C hX hbl hbA ⟨by omega, by omega⟩ dL_law_582 ?_
          refine m_topi (fun x513 ex513 => ?_)
          refine m_callV (n := 1) (ci := 10) (st := []) C (c_X11_lean l G τ (x513) iτ ) (by decide) (by decide) rfl rfl rfl q3_120 q3_117 q3_118 q3_119 q1_1 (by decide +kernel) rfl (by decide) ⟨by show (250 + 8 * y3.toInt.toNat) + 0 ≤ 600000; omega, by show (5300 + 24 * y3.toInt.toNat) + 0 ≤ 7302250; omega⟩ rfl (Nat.le_of_ble_eq_true rfl) dL_law_583 ?_
          rintro _ τ514 ⟨x517, rfl, i515, f516, b518⟩
          have r521 : TR τ514 := wτ.call f516 (by decide) (by decide)
          have r522 : MA τ514 S I := mτ.fr iτ f516 (by decide) (by decide)
          have r523 : Rel τ514 := rτ.call f516 (by decide) (by decide)
          have r524 : RT τ514 := tτ.call f516 (by decide) (by decide)
          have r525 : CA τ514 S I := cτ.fr f516 (by decide) (by decide)
          show MW p l e _ s m _ below meth c _ 4 G (250 + 8 * y3.toInt.toNat) (5300 + 24 * y3.toInt.toNat) 586 [some (.ref b), some (.ref (G.1 0 0)), some (.ref (G.1 22 0)), some (.int y3)] [.int x517] τ514
          refine m_pop C dL_law_586 rfl ?_
          refine m_aload_n C dL_law_587 rfl rfl ?_
          refine m_aload_n C dL_law_588 rfl rfl ?_
          refine m_iload_n C dL_law_589 rfl rfl ?_
          refine m_iconst (v := 1) C dL_law_590 (by decide) ?_
          refine m_iadd C dL_law_591 ?_
          refine m_topi (fun x526 ex526 => ?_)
          have tx526 : x526.toInt = y3.toInt + 1 := by rw [ex526, ti_addv b8 kc_1 (by decide), kt_1]
          have b527 : IV x526 1 3067 := by rw [ex526]; exact iv_add b8 kc_1 (by decide)
          refine m_sld C hX hbl hbA ⟨by omega, by omega⟩ dL_law_592 ?_
          refine m_eqs (w := x513) (by rw [ex513, show x526.toInt.toNat = x511.toInt.toNat by omega]) ?_
          refine m_callV (n := 1) (ci := 11) (st := []) C (c_X12_lean l G τ514 (x513) i515 ) (by decide) (by decide) rfl rfl rfl q5_120 q5_117 q5_118 q5_119 q1_7 (by decide +kernel) rfl (by decide) ⟨by show (250 + 8 * y3.toInt.toNat) + 0 ≤ 600000; omega, by show (5300 + 24 * y3.toInt.toNat) + 0 ≤ 7302250; omega⟩ rfl (Nat.le_of_ble_eq_true rfl) dL_law_593 ?_
          rintro _ τ528 ⟨x531, rfl, i529, f530, b532⟩
          have r535 : TR τ528 := r521.call f530 (by decide) (by decide)
          have r536 : Rel τ528 := r523.call f530 (by decide) (by decide)
          have r537 : RT τ528 := r524.call f530 (by decide) (by decide)
          have r538 : CA τ528 S I := r525.fr f530 (by decide) (by decide)
          have r539 : MA τ528 S I := r522.fr i515 f530 (by decide) (by decide)
          show MW p l e _ s m _ below meth c _ 4 G (250 + 8 * y3.toInt.toNat) (5300 + 24 * y3.toInt.toNat) 596 [some (.ref b), some (.ref (G.1 0 0)), some (.ref (G.1 22 0)), some (.int y3)] [.int x531] τ528
          refine m_pop C dL_law_596 rfl ?_
          refine m_goto (tgt := 1028) C dL_law_597 (by decide) ?_
          obtain ⟨x540, ex540⟩ : ∃ y : Int32, y = y3 + 6 := ⟨_, rfl⟩
          have tx540 : x540.toInt = y3.toInt + 6 := by rw [ex540, ti_addv b8 kc_6 (by decide), kt_6]
          have b541 : IV x540 6 3072 := by rw [ex540]; exact iv_add b8 kc_6 (by decide)
          refine m_iinc (v := x540) (L1 := [some (.ref b), some (.ref (G.1 0 0)), some (.ref (G.1 22 0)), some (.int x540)]) C dL_law_1028 rfl (by rw [ex540]; rfl) (by decide) rfl rfl ?_
          refine m_goto (tgt := 18) C dL_law_1031 (by decide) ?_
          refine m_widen (c2 := 250 + 8 * x540.toInt.toNat) (s2 := 5300 + 24 * x540.toInt.toNat) (by omega) (by omega) ?_
          exact ih18 τ528 x540 S I i529 r536 r537 r538 r539 r535 (iv_wk b541 (by decide)) (by have q := hm18; omega)
        by_cases s542 : x11.toInt = 14
        · refine m_tableIn (tgt := 600) (off := 567) C dL_law_33 (by omega) (by omega) (by rw [s542]; rfl) (by decide) ?_
          have b543 : IV x11 14 14 := ⟨by omega, by omega⟩
          refine m_aload_n C dL_law_600 rfl rfl ?_
          refine m_aload_n C dL_law_601 rfl rfl ?_
          refine m_iload_n C dL_law_602 rfl rfl ?_
          refine m_iconst (v := 1) C dL_law_603 (by decide) ?_
          refine m_iadd C dL_law_604 ?_
          refine m_topi (fun x544 ex544 => ?_)
          have tx544 : x544.toInt = y3.toInt + 1 := by rw [ex544, ti_addv b8 kc_1 (by decide), kt_1]
          have b545 : IV x544 1 3067 := by rw [ex544]; exact iv_add b8 kc_1 (by decide)
          refine m_sld C hX hbl hbA ⟨by omega, by omega⟩ dL_law_605 ?_
          refine m_topi (fun x546 ex546 => ?_)
          refine m_callV (n := 1) (ci := 10) (st := []) C (c_X11_worstS l G τ (x546) iτ ) (by decide) (by decide) rfl rfl rfl q3_125 q3_122 q3_123 q3_124 q1_1 (by decide +kernel) rfl (by decide) ⟨by show (250 + 8 * y3.toInt.toNat) + 0 ≤ 600000; omega, by show (5300 + 24 * y3.toInt.toNat) + 0 ≤ 7302250; omega⟩ rfl (Nat.le_of_ble_eq_true rfl) dL_law_606 ?_
          rintro _ τ547 ⟨x550, rfl, i548, f549, b551, h553⟩
          have r554 : TR τ547 := wτ.call f549 (by decide) (by decide)
          have r555 : MA τ547 S I := mτ.fr iτ f549 (by decide) (by decide)
          have r556 : Rel τ547 := rτ.call f549 (by decide) (by decide)
          have r557 : RT τ547 := tτ.call f549 (by decide) (by decide)
          have r558 : CA τ547 S I := cτ.sf f549 h553 (by decide) (by decide)
          show MW p l e _ s m _ below meth c _ 4 G (250 + 8 * y3.toInt.toNat) (5300 + 24 * y3.toInt.toNat) 609 [some (.ref b), some (.ref (G.1 0 0)), some (.ref (G.1 22 0)), some (.int y3)] [.int x550] τ547
          refine m_pop C dL_law_609 rfl ?_
          refine m_aload_n C dL_law_610 rfl rfl ?_
          refine m_aload_n C dL_law_611 rfl rfl ?_
          refine m_iload_n C dL_law_612 rfl rfl ?_
          refine m_iconst (v := 1) C dL_law_613 (by decide) ?_
          refine m_iadd C dL_law_614 ?_
          refine m_topi (fun x559 ex559 => ?_)
          have tx559 : x559.toInt = y3.toInt + 1 := by rw [ex559, ti_addv b8 kc_1 (by decide), kt_1]
          have b560 : IV x559 1 3067 := by rw [ex559]; exact iv_add b8 kc_1 (by decide)
          refine m_sld C hX hbl hbA ⟨by omega, by omega⟩ dL_law_615 ?_
          refine m_eqs (w := x546) (by rw [ex546, show x559.toInt.toNat = x544.toInt.toNat by omega]) ?_
          refine m_callV (n := 1) (ci := 11) (st := []) C (c_X12_worstS l G τ547 (x546) i548 ) (by decide) (by decide) rfl rfl rfl q5_124 q5_121 q5_122 q5_123 q1_7 (by decide +kernel) rfl (by decide) ⟨by show (250 + 8 * y3.toInt.toNat) + 0 ≤ 600000; omega, by show (5300 + 24 * y3.toInt.toNat) + 0 ≤ 7302250; omega⟩ rfl (Nat.le_of_ble_eq_true rfl) dL_law_616 ?_
          rintro _ τ561 ⟨x564, rfl, i562, f563, b565, h567⟩
          have r568 : TR τ561 := r554.call f563 (by decide) (by decide)
          have r569 : Rel τ561 := r556.call f563 (by decide) (by decide)
          have r570 : RT τ561 := r557.call f563 (by decide) (by decide)
          have r571 : CA τ561 S I := r558.fr f563 (by decide) (by decide)
          have r572 : MA τ561 S I := r555.sf i548 f563 h567 (by decide) (by decide)
          show MW p l e _ s m _ below meth c _ 4 G (250 + 8 * y3.toInt.toNat) (5300 + 24 * y3.toInt.toNat) 619 [some (.ref b), some (.ref (G.1 0 0)), some (.ref (G.1 22 0)), some (.int y3)] [.int x564] τ561
          refine m_pop C dL_law_619 rfl ?_
          refine m_goto (tgt := 1028) C dL_law_620 (by decide) ?_
          obtain ⟨x573, ex573⟩ : ∃ y : Int32, y = y3 + 6 := ⟨_, rfl⟩
          have tx573 : x573.toInt = y3.toInt + 6 := by rw [ex573, ti_addv b8 kc_6 (by decide), kt_6]
          have b574 : IV x573 6 3072 := by rw [ex573]; exact iv_add b8 kc_6 (by decide)
          refine m_iinc (v := x573) (L1 := [some (.ref b), some (.ref (G.1 0 0)), some (.ref (G.1 22 0)), some (.int x573)]) C dL_law_1028 rfl (by rw [ex573]; rfl) (by decide) rfl rfl ?_
          refine m_goto (tgt := 18) C dL_law_1031 (by decide) ?_
          refine m_widen (c2 := 250 + 8 * x573.toInt.toNat) (s2 := 5300 + 24 * x573.toInt.toNat) (by omega) (by omega) ?_
          exact ih18 τ561 x573 S I i562 r569 r570 r571 r572 r568 (iv_wk b574 (by decide)) (by have q := hm18; omega)
        by_cases s575 : x11.toInt = 15
        · refine m_tableIn (tgt := 623) (off := 590) C dL_law_33 (by omega) (by omega) (by rw [s575]; rfl) (by decide) ?_
          have b576 : IV x11 15 15 := ⟨by omega, by omega⟩
          refine m_aload_n C dL_law_623 rfl rfl ?_
          refine m_callV (n := 0) (ci := 10) (st := []) C (c_X11_mostS l G τ  iτ ) (by decide) (by decide) rfl rfl rfl q3_139 q3_136 q3_137 q3_138 q1_1 (by decide +kernel) rfl (by decide) ⟨by show (250 + 8 * y3.toInt.toNat) + 0 ≤ 600000; omega, by show (5300 + 24 * y3.toInt.toNat) + 0 ≤ 7302250; omega⟩ rfl (Nat.le_of_ble_eq_true rfl) dL_law_624 ?_
          rintro _ τ577 ⟨x580, rfl, i578, f579, b581, h583⟩
          have r584 : TR τ577 := wτ.call f579 (by decide) (by decide)
          have r585 : MA τ577 S I := mτ.fr iτ f579 (by decide) (by decide)
          have r586 : Rel τ577 := rτ.call f579 (by decide) (by decide)
          have r587 : RT τ577 := tτ.call f579 (by decide) (by decide)
          have r588 : CA τ577 S I := cτ.sf f579 h583 (by decide) (by decide)
          show MW p l e _ s m _ below meth c _ 4 G (250 + 8 * y3.toInt.toNat) (5300 + 24 * y3.toInt.toNat) 627 [some (.ref b), some (.ref (G.1 0 0)), some (.ref (G.1 22 0)), some (.int y3)] [.int x580] τ577
          refine m_pop C dL_law_627 rfl ?_
          refine m_aload_n C dL_law_628 rfl rfl ?_
          refine m_callV (n := 0) (ci := 11) (st := []) C (c_X12_mostS l G τ577  i578 ) (by decide) (by decide) rfl rfl rfl q5_136 q5_133 q5_134 q5_135 q1_7 (by decide +kernel) rfl (by decide) ⟨by show (250 + 8 * y3.toInt.toNat) + 0 ≤ 600000; omega, by show (5300 + 24 * y3.toInt.toNat) + 0 ≤ 7302250; omega⟩ rfl (Nat.le_of_ble_eq_true rfl) dL_law_629 ?_
          rintro _ τ589 ⟨x592, rfl, i590, f591, b593, h595⟩
          have r596 : TR τ589 := r584.call f591 (by decide) (by decide)
          have r597 : Rel τ589 := r586.call f591 (by decide) (by decide)
          have r598 : RT τ589 := r587.call f591 (by decide) (by decide)
          have r599 : CA τ589 S I := r588.fr f591 (by decide) (by decide)
          have r600 : MA τ589 S I := r585.sf i578 f591 h595 (by decide) (by decide)
          show MW p l e _ s m _ below meth c _ 4 G (250 + 8 * y3.toInt.toNat) (5300 + 24 * y3.toInt.toNat) 632 [some (.ref b), some (.ref (G.1 0 0)), some (.ref (G.1 22 0)), some (.int y3)] [.int x592] τ589
          refine m_pop C dL_law_632 rfl ?_
          refine m_goto (tgt := 1028) C dL_law_633 (by decide) ?_
          obtain ⟨x601, ex601⟩ : ∃ y : Int32, y = y3 + 6 := ⟨_, rfl⟩
          have tx601 : x601.toInt = y3.toInt + 6 := by rw [ex601, ti_addv b8 kc_6 (by decide), kt_6]
          have b602 : IV x601 6 3072 := by rw [ex601]; exact iv_add b8 kc_6 (by decide)
          refine m_iinc (v := x601) (L1 := [some (.ref b), some (.ref (G.1 0 0)), some (.ref (G.1 22 0)), some (.int x601)]) C dL_law_1028 rfl (by rw [ex601]; rfl) (by decide) rfl rfl ?_
          refine m_goto (tgt := 18) C dL_law_1031 (by decide) ?_
          refine m_widen (c2 := 250 + 8 * x601.toInt.toNat) (s2 := 5300 + 24 * x601.toInt.toNat) (by omega) (by omega) ?_
          exact ih18 τ589 x601 S I i590 r597 r598 r599 r600 r596 (iv_wk b602 (by decide)) (by have q := hm18; omega)
        by_cases s603 : x11.toInt = 16
        · refine m_tableIn (tgt := 636) (off := 603) C dL_law_33 (by omega) (by omega) (by rw [s603]; rfl) (by decide) ?_
          have b604 : IV x11 16 16 := ⟨by omega, by omega⟩
          refine m_aload_n C dL_law_636 rfl rfl ?_
          refine m_aload_n C dL_law_637 rfl rfl ?_
          refine m_iload_n C dL_law_638 rfl rfl ?_
          refine m_iconst (v := 1) C dL_law_639 (by decide) ?_
          refine m_iadd C dL_law_640 ?_
          refine m_topi (fun x605 ex605 => ?_)
          have tx605 : x605.toInt = y3.toInt + 1 := by rw [ex605, ti_addv b8 kc_1 (by decide), kt_1]
          have b606 : IV x605 1 3067 := by rw [ex605]; exact iv_add b8 kc_1 (by decide)
          refine m_sld C hX hbl hbA ⟨by omega, by omega⟩ dL_law_641 ?_
          refine m_topi (fun x607 ex607 => ?_)
          refine m_aload_n C dL_law_642 rfl rfl ?_
          refine m_iload_n C dL_law_643 rfl rfl ?_
          refine m_iconst (v := 2) C dL_law_644 (by decide) ?_
          refine m_iadd C dL_law_645 ?_
          refine m_topi (fun x608 ex608 => ?_)
          have tx608 : x608.toInt = y3.toInt + 2 := by rw [ex608, ti_addv b8 kc_2 (by decide), kt_2]
          have b609 : IV x608 2 3068 := by rw [ex608]; exact iv_add b8 kc_2 (by decide)
          refine m_sld C hX hbl hbA ⟨by omega, by omega⟩ dL_law_646 ?_
          refine m_topi (fun x610 ex610 => ?_)
          refine m_aload_n C dL_law_647 rfl rfl ?_
          refine m_iload_n C dL_law_648 rfl rfl ?_
          refine m_iconst (v := 3) C dL_law_649 (by decide) ?_
          refine m_iadd C dL_law_650 ?_
          refine m_topi (fun x611 ex611 => ?_)
          have tx611 : x611.toInt = y3.toInt + 3 := by rw [ex611, ti_addv b8 kc_3 (by decide), kt_3]
          have b612 : IV x611 3 3069 := by rw [ex611]; exact iv_add b8 kc_3 (by decide)
          refine m_sld C hX hbl hbA ⟨by omega, by omega⟩ dL_law_651 ?_
          refine m_topi (fun x613 ex613 => ?_)
          refine m_callV (n := 3) (ci := 10) (st := []) C (c_X11_twoS l G τ (x607) (x610) (x613) iτ ) (by decide) (by decide) rfl rfl rfl q3_157 q3_154 q3_155 q3_156 q1_1 (by decide +kernel) rfl (by decide) ⟨by show (250 + 8 * y3.toInt.toNat) + 0 ≤ 600000; omega, by show (5300 + 24 * y3.toInt.toNat) + 0 ≤ 7302250; omega⟩ rfl (Nat.le_of_ble_eq_true rfl) dL_law_652 ?_
          rintro _ τ614 ⟨x617, rfl, i615, f616, b618, h620⟩
          have r621 : TR τ614 := wτ.call f616 (by decide) (by decide)
          have r622 : MA τ614 S I := mτ.fr iτ f616 (by decide) (by decide)
          have r623 : Rel τ614 := rτ.call f616 (by decide) (by decide)
          have r624 : RT τ614 := tτ.call f616 (by decide) (by decide)
          have r625 : CA τ614 S I := cτ.sf f616 h620 (by decide) (by decide)
          show MW p l e _ s m _ below meth c _ 4 G (250 + 8 * y3.toInt.toNat) (5300 + 24 * y3.toInt.toNat) 655 [some (.ref b), some (.ref (G.1 0 0)), some (.ref (G.1 22 0)), some (.int y3)] [.int x617] τ614
          refine m_pop C dL_law_655 rfl ?_
          refine m_aload_n C dL_law_656 rfl rfl ?_
          refine m_aload_n C dL_law_657 rfl rfl ?_
          refine m_iload_n C dL_law_658 rfl rfl ?_
          refine m_iconst (v := 1) C dL_law_659 (by decide) ?_
          refine m_iadd C dL_law_660 ?_
          refine m_topi (fun x626 ex626 => ?_)
          have tx626 : x626.toInt = y3.toInt + 1 := by rw [ex626, ti_addv b8 kc_1 (by decide), kt_1]
          have b627 : IV x626 1 3067 := by rw [ex626]; exact iv_add b8 kc_1 (by decide)
          refine m_sld C hX hbl hbA ⟨by omega, by omega⟩ dL_law_661 ?_
          refine m_eqs (w := x607) (by rw [ex607, show x626.toInt.toNat = x605.toInt.toNat by omega]) ?_
          refine m_aload_n C dL_law_662 rfl rfl ?_
          refine m_iload_n C dL_law_663 rfl rfl ?_
          refine m_iconst (v := 2) C dL_law_664 (by decide) ?_
          refine m_iadd C dL_law_665 ?_
          refine m_topi (fun x628 ex628 => ?_)
          have tx628 : x628.toInt = y3.toInt + 2 := by rw [ex628, ti_addv b8 kc_2 (by decide), kt_2]
          have b629 : IV x628 2 3068 := by rw [ex628]; exact iv_add b8 kc_2 (by decide)
          refine m_sld C hX hbl hbA ⟨by omega, by omega⟩ dL_law_666 ?_
          refine m_eqs (w := x610) (by rw [ex610, show x628.toInt.toNat = x608.toInt.toNat by omega]) ?_
          refine m_aload_n C dL_law_667 rfl rfl ?_
          refine m_iload_n C dL_law_668 rfl rfl ?_
          refine m_iconst (v := 3) C dL_law_669 (by decide) ?_
          refine m_iadd C dL_law_670 ?_
          refine m_topi (fun x630 ex630 => ?_)
          have tx630 : x630.toInt = y3.toInt + 3 := by rw [ex630, ti_addv b8 kc_3 (by decide), kt_3]
          have b631 : IV x630 3 3069 := by rw [ex630]; exact iv_add b8 kc_3 (by decide)
          refine m_sld C hX hbl hbA ⟨by omega, by omega⟩ dL_law_671 ?_
          refine m_eqs (w := x613) (by rw [ex613, show x630.toInt.toNat = x611.toInt.toNat by omega]) ?_
          refine m_callV (n := 3) (ci := 11) (st := []) C (c_X12_twoS l G τ614 (x607) (x610) (x613) i615 ) (by decide) (by decide) rfl rfl rfl q5_146 q5_143 q5_144 q5_145 q1_7 (by decide +kernel) rfl (by decide) ⟨by show (250 + 8 * y3.toInt.toNat) + 0 ≤ 600000; omega, by show (5300 + 24 * y3.toInt.toNat) + 0 ≤ 7302250; omega⟩ rfl (Nat.le_of_ble_eq_true rfl) dL_law_672 ?_
          rintro _ τ632 ⟨x635, rfl, i633, f634, b636, h638⟩
          have r639 : TR τ632 := r621.call f634 (by decide) (by decide)
          have r640 : Rel τ632 := r623.call f634 (by decide) (by decide)
          have r641 : RT τ632 := r624.call f634 (by decide) (by decide)
          have r642 : CA τ632 S I := r625.fr f634 (by decide) (by decide)
          have r643 : MA τ632 S I := r622.sf i615 f634 h638 (by decide) (by decide)
          show MW p l e _ s m _ below meth c _ 4 G (250 + 8 * y3.toInt.toNat) (5300 + 24 * y3.toInt.toNat) 675 [some (.ref b), some (.ref (G.1 0 0)), some (.ref (G.1 22 0)), some (.int y3)] [.int x635] τ632
          refine m_pop C dL_law_675 rfl ?_
          refine m_goto (tgt := 1028) C dL_law_676 (by decide) ?_
          obtain ⟨x644, ex644⟩ : ∃ y : Int32, y = y3 + 6 := ⟨_, rfl⟩
          have tx644 : x644.toInt = y3.toInt + 6 := by rw [ex644, ti_addv b8 kc_6 (by decide), kt_6]
          have b645 : IV x644 6 3072 := by rw [ex644]; exact iv_add b8 kc_6 (by decide)
          refine m_iinc (v := x644) (L1 := [some (.ref b), some (.ref (G.1 0 0)), some (.ref (G.1 22 0)), some (.int x644)]) C dL_law_1028 rfl (by rw [ex644]; rfl) (by decide) rfl rfl ?_
          refine m_goto (tgt := 18) C dL_law_1031 (by decide) ?_
          refine m_widen (c2 := 250 + 8 * x644.toInt.toNat) (s2 := 5300 + 24 * x644.toInt.toNat) (by omega) (by omega) ?_
          exact ih18 τ632 x644 S I i633 r640 r641 r642 r643 r639 (iv_wk b645 (by decide)) (by have q := hm18; omega)
        by_cases s646 : x11.toInt = 17
        · refine m_tableIn (tgt := 679) (off := 646) C dL_law_33 (by omega) (by omega) (by rw [s646]; rfl) (by decide) ?_
          have b647 : IV x11 17 17 := ⟨by omega, by omega⟩
          refine m_aload_n C dL_law_679 rfl rfl ?_
          refine m_aload_n C dL_law_680 rfl rfl ?_
          refine m_iload_n C dL_law_681 rfl rfl ?_
          refine m_iconst (v := 1) C dL_law_682 (by decide) ?_
          refine m_iadd C dL_law_683 ?_
          refine m_topi (fun x648 ex648 => ?_)
          have tx648 : x648.toInt = y3.toInt + 1 := by rw [ex648, ti_addv b8 kc_1 (by decide), kt_1]
          have b649 : IV x648 1 3067 := by rw [ex648]; exact iv_add b8 kc_1 (by decide)
          refine m_sld C hX hbl hbA ⟨by omega, by omega⟩ dL_law_684 ?_
          refine m_topi (fun x650 ex650 => ?_)
          refine m_callV (n := 1) (ci := 10) (st := []) C (c_X11_stonesS l G τ (x650) iτ ) (by decide) (by decide) rfl rfl rfl q3_170 q3_167 q3_168 q3_169 q1_1 (by decide +kernel) rfl (by decide) ⟨by show (250 + 8 * y3.toInt.toNat) + 0 ≤ 600000; omega, by show (5300 + 24 * y3.toInt.toNat) + 0 ≤ 7302250; omega⟩ rfl (Nat.le_of_ble_eq_true rfl) dL_law_685 ?_
          rintro _ τ651 ⟨x654, rfl, i652, f653, b655, h657⟩
          have r658 : TR τ651 := wτ.call f653 (by decide) (by decide)
          have r659 : MA τ651 S I := mτ.fr iτ f653 (by decide) (by decide)
          have r660 : Rel τ651 := rτ.call f653 (by decide) (by decide)
          have r661 : RT τ651 := tτ.call f653 (by decide) (by decide)
          have r662 : CA τ651 S I := cτ.sf f653 h657 (by decide) (by decide)
          show MW p l e _ s m _ below meth c _ 4 G (250 + 8 * y3.toInt.toNat) (5300 + 24 * y3.toInt.toNat) 688 [some (.ref b), some (.ref (G.1 0 0)), some (.ref (G.1 22 0)), some (.int y3)] [.int x654] τ651
          refine m_pop C dL_law_688 rfl ?_
          refine m_aload_n C dL_law_689 rfl rfl ?_
          refine m_aload_n C dL_law_690 rfl rfl ?_
          refine m_iload_n C dL_law_691 rfl rfl ?_
          refine m_iconst (v := 1) C dL_law_692 (by decide) ?_
          refine m_iadd C dL_law_693 ?_
          refine m_topi (fun x663 ex663 => ?_)
          have tx663 : x663.toInt = y3.toInt + 1 := by rw [ex663, ti_addv b8 kc_1 (by decide), kt_1]
          have b664 : IV x663 1 3067 := by rw [ex663]; exact iv_add b8 kc_1 (by decide)
          refine m_sld C hX hbl hbA ⟨by omega, by omega⟩ dL_law_694 ?_
          refine m_eqs (w := x650) (by rw [ex650, show x663.toInt.toNat = x648.toInt.toNat by omega]) ?_
          refine m_callV (n := 1) (ci := 11) (st := []) C (c_X12_stonesS l G τ651 (x650) i652 ) (by decide) (by decide) rfl rfl rfl q5_150 q5_147 q5_148 q5_149 q1_7 (by decide +kernel) rfl (by decide) ⟨by show (250 + 8 * y3.toInt.toNat) + 0 ≤ 600000; omega, by show (5300 + 24 * y3.toInt.toNat) + 0 ≤ 7302250; omega⟩ rfl (Nat.le_of_ble_eq_true rfl) dL_law_695 ?_
          rintro _ τ665 ⟨x668, rfl, i666, f667, b669, h671⟩
          have r672 : TR τ665 := r658.call f667 (by decide) (by decide)
          have r673 : Rel τ665 := r660.call f667 (by decide) (by decide)
          have r674 : RT τ665 := r661.call f667 (by decide) (by decide)
          have r675 : CA τ665 S I := r662.fr f667 (by decide) (by decide)
          have r676 : MA τ665 S I := r659.sf i652 f667 h671 (by decide) (by decide)
          show MW p l e _ s m _ below meth c _ 4 G (250 + 8 * y3.toInt.toNat) (5300 + 24 * y3.toInt.toNat) 698 [some (.ref b), some (.ref (G.1 0 0)), some (.ref (G.1 22 0)), some (.int y3)] [.int x668] τ665
          refine m_pop C dL_law_698 rfl ?_
          refine m_goto (tgt := 1028) C dL_law_699 (by decide) ?_
          obtain ⟨x677, ex677⟩ : ∃ y : Int32, y = y3 + 6 := ⟨_, rfl⟩
          have tx677 : x677.toInt = y3.toInt + 6 := by rw [ex677, ti_addv b8 kc_6 (by decide), kt_6]
          have b678 : IV x677 6 3072 := by rw [ex677]; exact iv_add b8 kc_6 (by decide)
          refine m_iinc (v := x677) (L1 := [some (.ref b), some (.ref (G.1 0 0)), some (.ref (G.1 22 0)), some (.int x677)]) C dL_law_1028 rfl (by rw [ex677]; rfl) (by decide) rfl rfl ?_
          refine m_goto (tgt := 18) C dL_law_1031 (by decide) ?_
          refine m_widen (c2 := 250 + 8 * x677.toInt.toNat) (s2 := 5300 + 24 * x677.toInt.toNat) (by omega) (by omega) ?_
          exact ih18 τ665 x677 S I i666 r673 r674 r675 r676 r672 (iv_wk b678 (by decide)) (by have q := hm18; omega)
        by_cases s679 : x11.toInt = 18
        · refine m_tableIn (tgt := 702) (off := 669) C dL_law_33 (by omega) (by omega) (by rw [s679]; rfl) (by decide) ?_
          have b680 : IV x11 18 18 := ⟨by omega, by omega⟩
          refine m_aload_n C dL_law_702 rfl rfl ?_
          refine m_aload_n C dL_law_703 rfl rfl ?_
          refine m_iload_n C dL_law_704 rfl rfl ?_
          refine m_iconst (v := 1) C dL_law_705 (by decide) ?_
          refine m_iadd C dL_law_706 ?_
          refine m_topi (fun x681 ex681 => ?_)
          have tx681 : x681.toInt = y3.toInt + 1 := by rw [ex681, ti_addv b8 kc_1 (by decide), kt_1]
          have b682 : IV x681 1 3067 := by rw [ex681]; exact iv_add b8 kc_1 (by decide)
          refine m_sld C hX hbl hbA ⟨by omega, by omega⟩ dL_law_707 ?_
          refine m_topi (fun x683 ex683 => ?_)
          refine m_aload_n C dL_law_708 rfl rfl ?_
          refine m_iload_n C dL_law_709 rfl rfl ?_
          refine m_iconst (v := 2) C dL_law_710 (by decide) ?_
          refine m_iadd C dL_law_711 ?_
          refine m_topi (fun x684 ex684 => ?_)
          have tx684 : x684.toInt = y3.toInt + 2 := by rw [ex684, ti_addv b8 kc_2 (by decide), kt_2]
          have b685 : IV x684 2 3068 := by rw [ex684]; exact iv_add b8 kc_2 (by decide)
          refine m_sld C hX hbl hbA ⟨by omega, by omega⟩ dL_law_712 ?_
          refine m_topi (fun x686 ex686 => ?_)
          refine m_aload_n C dL_law_713 rfl rfl ?_
          refine m_iload_n C dL_law_714 rfl rfl ?_
          refine m_iconst (v := 3) C dL_law_715 (by decide) ?_
          refine m_iadd C dL_law_716 ?_
          refine m_topi (fun x687 ex687 => ?_)
          have tx687 : x687.toInt = y3.toInt + 3 := by rw [ex687, ti_addv b8 kc_3 (by decide), kt_3]
          have b688 : IV x687 3 3069 := by rw [ex687]; exact iv_add b8 kc_3 (by decide)
          refine m_sld C hX hbl hbA ⟨by omega, by omega⟩ dL_law_717 ?_
          refine m_topi (fun x689 ex689 => ?_)
          refine m_aload_n C dL_law_718 rfl rfl ?_
          refine m_iload_n C dL_law_719 rfl rfl ?_
          refine m_iconst (v := 4) C dL_law_720 (by decide) ?_
          refine m_iadd C dL_law_721 ?_
          refine m_topi (fun x690 ex690 => ?_)
          have tx690 : x690.toInt = y3.toInt + 4 := by rw [ex690, ti_addv b8 kc_4 (by decide), kt_4]
          have b691 : IV x690 4 3070 := by rw [ex690]; exact iv_add b8 kc_4 (by decide)
          refine m_sld C hX hbl hbA ⟨by omega, by omega⟩ dL_law_722 ?_
          refine m_topi (fun x692 ex692 => ?_)
          refine m_callV (n := 4) (ci := 10) (st := []) C (c_X11_marksS l G τ (x683) (x686) (x689) (x692) iτ ) (by decide) (by decide) rfl rfl rfl q3_187 q3_184 q3_185 q3_186 q1_1 (by decide +kernel) rfl (by decide) ⟨by show (250 + 8 * y3.toInt.toNat) + 0 ≤ 600000; omega, by show (5300 + 24 * y3.toInt.toNat) + 0 ≤ 7302250; omega⟩ rfl (Nat.le_of_ble_eq_true rfl) dL_law_723 ?_
          rintro _ τ693 ⟨x696, rfl, i694, f695, b697, h699⟩
          have r700 : TR τ693 := wτ.call f695 (by decide) (by decide)
          have r701 : MA τ693 S I := mτ.fr iτ f695 (by decide) (by decide)
          have r702 : Rel τ693 := rτ.call f695 (by decide) (by decide)
          have r703 : RT τ693 := tτ.call f695 (by decide) (by decide)
          have r704 : CA τ693 S I := cτ.sf f695 h699 (by decide) (by decide)
          show MW p l e _ s m _ below meth c _ 4 G (250 + 8 * y3.toInt.toNat) (5300 + 24 * y3.toInt.toNat) 726 [some (.ref b), some (.ref (G.1 0 0)), some (.ref (G.1 22 0)), some (.int y3)] [.int x696] τ693
          refine m_pop C dL_law_726 rfl ?_
          refine m_aload_n C dL_law_727 rfl rfl ?_
          refine m_aload_n C dL_law_728 rfl rfl ?_
          refine m_iload_n C dL_law_729 rfl rfl ?_
          refine m_iconst (v := 1) C dL_law_730 (by decide) ?_
          refine m_iadd C dL_law_731 ?_
          refine m_topi (fun x705 ex705 => ?_)
          have tx705 : x705.toInt = y3.toInt + 1 := by rw [ex705, ti_addv b8 kc_1 (by decide), kt_1]
          have b706 : IV x705 1 3067 := by rw [ex705]; exact iv_add b8 kc_1 (by decide)
          refine m_sld C hX hbl hbA ⟨by omega, by omega⟩ dL_law_732 ?_
          refine m_eqs (w := x683) (by rw [ex683, show x705.toInt.toNat = x681.toInt.toNat by omega]) ?_
          refine m_aload_n C dL_law_733 rfl rfl ?_
          refine m_iload_n C dL_law_734 rfl rfl ?_
          refine m_iconst (v := 2) C dL_law_735 (by decide) ?_
          refine m_iadd C dL_law_736 ?_
          refine m_topi (fun x707 ex707 => ?_)
          have tx707 : x707.toInt = y3.toInt + 2 := by rw [ex707, ti_addv b8 kc_2 (by decide), kt_2]
          have b708 : IV x707 2 3068 := by rw [ex707]; exact iv_add b8 kc_2 (by decide)
          refine m_sld C hX hbl hbA ⟨by omega, by omega⟩ dL_law_737 ?_
          refine m_eqs (w := x686) (by rw [ex686, show x707.toInt.toNat = x684.toInt.toNat by omega]) ?_
          refine m_aload_n C dL_law_738 rfl rfl ?_
          refine m_iload_n C dL_law_739 rfl rfl ?_
          refine m_iconst (v := 3) C dL_law_740 (by decide) ?_
          refine m_iadd C dL_law_741 ?_
          refine m_topi (fun x709 ex709 => ?_)
          have tx709 : x709.toInt = y3.toInt + 3 := by rw [ex709, ti_addv b8 kc_3 (by decide), kt_3]
          have b710 : IV x709 3 3069 := by rw [ex709]; exact iv_add b8 kc_3 (by decide)
          refine m_sld C hX hbl hbA ⟨by omega, by omega⟩ dL_law_742 ?_
          refine m_eqs (w := x689) (by rw [ex689, show x709.toInt.toNat = x687.toInt.toNat by omega]) ?_
          refine m_aload_n C dL_law_743 rfl rfl ?_
          refine m_iload_n C dL_law_744 rfl rfl ?_
          refine m_iconst (v := 4) C dL_law_745 (by decide) ?_
          refine m_iadd C dL_law_746 ?_
          refine m_topi (fun x711 ex711 => ?_)
          have tx711 : x711.toInt = y3.toInt + 4 := by rw [ex711, ti_addv b8 kc_4 (by decide), kt_4]
          have b712 : IV x711 4 3070 := by rw [ex711]; exact iv_add b8 kc_4 (by decide)
          refine m_sld C hX hbl hbA ⟨by omega, by omega⟩ dL_law_747 ?_
          refine m_eqs (w := x692) (by rw [ex692, show x711.toInt.toNat = x690.toInt.toNat by omega]) ?_
          refine m_callV (n := 4) (ci := 11) (st := []) C (c_X12_marksS l G τ693 (x683) (x686) (x689) (x692) i694 ) (by decide) (by decide) rfl rfl rfl q5_154 q5_151 q5_152 q5_153 q1_7 (by decide +kernel) rfl (by decide) ⟨by show (250 + 8 * y3.toInt.toNat) + 0 ≤ 600000; omega, by show (5300 + 24 * y3.toInt.toNat) + 0 ≤ 7302250; omega⟩ rfl (Nat.le_of_ble_eq_true rfl) dL_law_748 ?_
          rintro _ τ713 ⟨x716, rfl, i714, f715, b717, h719⟩
          have r720 : TR τ713 := r700.call f715 (by decide) (by decide)
          have r721 : Rel τ713 := r702.call f715 (by decide) (by decide)
          have r722 : RT τ713 := r703.call f715 (by decide) (by decide)
          have r723 : CA τ713 S I := r704.fr f715 (by decide) (by decide)
          have r724 : MA τ713 S I := r701.sf i694 f715 h719 (by decide) (by decide)
          show MW p l e _ s m _ below meth c _ 4 G (250 + 8 * y3.toInt.toNat) (5300 + 24 * y3.toInt.toNat) 751 [some (.ref b), some (.ref (G.1 0 0)), some (.ref (G.1 22 0)), some (.int y3)] [.int x716] τ713
          refine m_pop C dL_law_751 rfl ?_
          refine m_goto (tgt := 1028) C dL_law_752 (by decide) ?_
          obtain ⟨x725, ex725⟩ : ∃ y : Int32, y = y3 + 6 := ⟨_, rfl⟩
          have tx725 : x725.toInt = y3.toInt + 6 := by rw [ex725, ti_addv b8 kc_6 (by decide), kt_6]
          have b726 : IV x725 6 3072 := by rw [ex725]; exact iv_add b8 kc_6 (by decide)
          refine m_iinc (v := x725) (L1 := [some (.ref b), some (.ref (G.1 0 0)), some (.ref (G.1 22 0)), some (.int x725)]) C dL_law_1028 rfl (by rw [ex725]; rfl) (by decide) rfl rfl ?_
          refine m_goto (tgt := 18) C dL_law_1031 (by decide) ?_
          refine m_widen (c2 := 250 + 8 * x725.toInt.toNat) (s2 := 5300 + 24 * x725.toInt.toNat) (by omega) (by omega) ?_
          exact ih18 τ713 x725 S I i714 r721 r722 r723 r724 r720 (iv_wk b726 (by decide)) (by have q := hm18; omega)
        by_cases s727 : x11.toInt = 19
        · refine m_tableIn (tgt := 755) (off := 722) C dL_law_33 (by omega) (by omega) (by rw [s727]; rfl) (by decide) ?_
          have b728 : IV x11 19 19 := ⟨by omega, by omega⟩
          refine m_aload_n C dL_law_755 rfl rfl ?_
          refine m_aload_n C dL_law_756 rfl rfl ?_
          refine m_iload_n C dL_law_757 rfl rfl ?_
          refine m_iconst (v := 1) C dL_law_758 (by decide) ?_
          refine m_iadd C dL_law_759 ?_
          refine m_topi (fun x729 ex729 => ?_)
          have tx729 : x729.toInt = y3.toInt + 1 := by rw [ex729, ti_addv b8 kc_1 (by decide), kt_1]
          have b730 : IV x729 1 3067 := by rw [ex729]; exact iv_add b8 kc_1 (by decide)
          refine m_sld C hX hbl hbA ⟨by omega, by omega⟩ dL_law_760 ?_
          refine m_topi (fun x731 ex731 => ?_)
          refine m_callV (n := 1) (ci := 10) (st := []) C (c_X11_rescue l G τ (x731) iτ ) (by decide) (by decide) rfl rfl rfl q3_202 q3_199 q3_200 q3_201 q1_1 (by decide +kernel) rfl (by decide) ⟨by show (250 + 8 * y3.toInt.toNat) + 0 ≤ 600000; omega, by show (5300 + 24 * y3.toInt.toNat) + 0 ≤ 7302250; omega⟩ rfl (Nat.le_of_ble_eq_true rfl) dL_law_761 ?_
          rintro _ τ732 ⟨x735, rfl, i733, f734, b736⟩
          have r739 : TR τ732 := wτ.call f734 (by decide) (by decide)
          have r740 : MA τ732 S I := mτ.fr iτ f734 (by decide) (by decide)
          have r741 : Rel τ732 := rτ.call f734 (by decide) (by decide)
          have r742 : RT τ732 := tτ.call f734 (by decide) (by decide)
          have r743 : CA τ732 S I := cτ.fr f734 (by decide) (by decide)
          show MW p l e _ s m _ below meth c _ 4 G (250 + 8 * y3.toInt.toNat) (5300 + 24 * y3.toInt.toNat) 764 [some (.ref b), some (.ref (G.1 0 0)), some (.ref (G.1 22 0)), some (.int y3)] [.int x735] τ732
          refine m_pop C dL_law_764 rfl ?_
          refine m_aload_n C dL_law_765 rfl rfl ?_
          refine m_aload_n C dL_law_766 rfl rfl ?_
          refine m_iload_n C dL_law_767 rfl rfl ?_
          refine m_iconst (v := 1) C dL_law_768 (by decide) ?_
          refine m_iadd C dL_law_769 ?_
          refine m_topi (fun x744 ex744 => ?_)
          have tx744 : x744.toInt = y3.toInt + 1 := by rw [ex744, ti_addv b8 kc_1 (by decide), kt_1]
          have b745 : IV x744 1 3067 := by rw [ex744]; exact iv_add b8 kc_1 (by decide)
          refine m_sld C hX hbl hbA ⟨by omega, by omega⟩ dL_law_770 ?_
          refine m_eqs (w := x731) (by rw [ex731, show x744.toInt.toNat = x729.toInt.toNat by omega]) ?_
          refine m_callV (n := 1) (ci := 11) (st := []) C (c_X12_rescueS l G τ732 (x731) i733 ) (by decide) (by decide) rfl rfl rfl q5_160 q5_157 q5_158 q5_159 q1_7 (by decide +kernel) rfl (by decide) ⟨by show (250 + 8 * y3.toInt.toNat) + 0 ≤ 600000; omega, by show (5300 + 24 * y3.toInt.toNat) + 0 ≤ 7302250; omega⟩ rfl (Nat.le_of_ble_eq_true rfl) dL_law_771 ?_
          rintro _ τ746 ⟨x749, rfl, i747, f748, b750, h752⟩
          have r753 : TR τ746 := r739.call f748 (by decide) (by decide)
          have r754 : Rel τ746 := r741.call f748 (by decide) (by decide)
          have r755 : RT τ746 := r742.call f748 (by decide) (by decide)
          have r756 : CA τ746 S I := r743.fr f748 (by decide) (by decide)
          have r757 : MA τ746 S I := r740.sf i733 f748 h752 (by decide) (by decide)
          show MW p l e _ s m _ below meth c _ 4 G (250 + 8 * y3.toInt.toNat) (5300 + 24 * y3.toInt.toNat) 774 [some (.ref b), some (.ref (G.1 0 0)), some (.ref (G.1 22 0)), some (.int y3)] [.int x749] τ746
          refine m_pop C dL_law_774 rfl ?_
          refine m_goto (tgt := 1028) C dL_law_775 (by decide) ?_
          obtain ⟨x758, ex758⟩ : ∃ y : Int32, y = y3 + 6 := ⟨_, rfl⟩
          have tx758 : x758.toInt = y3.toInt + 6 := by rw [ex758, ti_addv b8 kc_6 (by decide), kt_6]
          have b759 : IV x758 6 3072 := by rw [ex758]; exact iv_add b8 kc_6 (by decide)
          refine m_iinc (v := x758) (L1 := [some (.ref b), some (.ref (G.1 0 0)), some (.ref (G.1 22 0)), some (.int x758)]) C dL_law_1028 rfl (by rw [ex758]; rfl) (by decide) rfl rfl ?_
          refine m_goto (tgt := 18) C dL_law_1031 (by decide) ?_
          refine m_widen (c2 := 250 + 8 * x758.toInt.toNat) (s2 := 5300 + 24 * x758.toInt.toNat) (by omega) (by omega) ?_
          exact ih18 τ746 x758 S I i747 r754 r755 r756 r757 r753 (iv_wk b759 (by decide)) (by have q := hm18; omega)
        by_cases s760 : x11.toInt = 20
        · refine m_tableIn (tgt := 778) (off := 745) C dL_law_33 (by omega) (by omega) (by rw [s760]; rfl) (by decide) ?_
          have b761 : IV x11 20 20 := ⟨by omega, by omega⟩
          refine m_aload_n C dL_law_778 rfl rfl ?_
          refine m_callV (n := 0) (ci := 10) (st := []) C (c_X11_fallS l G τ  iτ ) (by decide) (by decide) rfl rfl rfl q3_220 q3_217 q3_218 q3_219 q1_1 (by decide +kernel) rfl (by decide) ⟨by show (250 + 8 * y3.toInt.toNat) + 0 ≤ 600000; omega, by show (5300 + 24 * y3.toInt.toNat) + 0 ≤ 7302250; omega⟩ rfl (Nat.le_of_ble_eq_true rfl) dL_law_779 ?_
          rintro _ τ762 ⟨x765, rfl, i763, f764, b766, h768⟩
          have r769 : TR τ762 := wτ.call f764 (by decide) (by decide)
          have r770 : MA τ762 S I := mτ.fr iτ f764 (by decide) (by decide)
          have r771 : Rel τ762 := rτ.call f764 (by decide) (by decide)
          have r772 : RT τ762 := tτ.call f764 (by decide) (by decide)
          have r773 : CA τ762 S I := cτ.sf f764 h768 (by decide) (by decide)
          show MW p l e _ s m _ below meth c _ 4 G (250 + 8 * y3.toInt.toNat) (5300 + 24 * y3.toInt.toNat) 782 [some (.ref b), some (.ref (G.1 0 0)), some (.ref (G.1 22 0)), some (.int y3)] [.int x765] τ762
          refine m_pop C dL_law_782 rfl ?_
          refine m_aload_n C dL_law_783 rfl rfl ?_
          refine m_callV (n := 0) (ci := 11) (st := []) C (c_X12_fallS l G τ762  i763 ) (by decide) (by decide) rfl rfl rfl q5_168 q5_165 q5_166 q5_167 q1_7 (by decide +kernel) rfl (by decide) ⟨by show (250 + 8 * y3.toInt.toNat) + 0 ≤ 600000; omega, by show (5300 + 24 * y3.toInt.toNat) + 0 ≤ 7302250; omega⟩ rfl (Nat.le_of_ble_eq_true rfl) dL_law_784 ?_
          rintro _ τ774 ⟨x777, rfl, i775, f776, b778, h780⟩
          have r781 : TR τ774 := r769.call f776 (by decide) (by decide)
          have r782 : Rel τ774 := r771.call f776 (by decide) (by decide)
          have r783 : RT τ774 := r772.call f776 (by decide) (by decide)
          have r784 : CA τ774 S I := r773.fr f776 (by decide) (by decide)
          have r785 : MA τ774 S I := r770.sf i763 f776 h780 (by decide) (by decide)
          show MW p l e _ s m _ below meth c _ 4 G (250 + 8 * y3.toInt.toNat) (5300 + 24 * y3.toInt.toNat) 787 [some (.ref b), some (.ref (G.1 0 0)), some (.ref (G.1 22 0)), some (.int y3)] [.int x777] τ774
          refine m_pop C dL_law_787 rfl ?_
          refine m_goto (tgt := 1028) C dL_law_788 (by decide) ?_
          obtain ⟨x786, ex786⟩ : ∃ y : Int32, y = y3 + 6 := ⟨_, rfl⟩
          have tx786 : x786.toInt = y3.toInt + 6 := by rw [ex786, ti_addv b8 kc_6 (by decide), kt_6]
          have b787 : IV x786 6 3072 := by rw [ex786]; exact iv_add b8 kc_6 (by decide)
          refine m_iinc (v := x786) (L1 := [some (.ref b), some (.ref (G.1 0 0)), some (.ref (G.1 22 0)), some (.int x786)]) C dL_law_1028 rfl (by rw [ex786]; rfl) (by decide) rfl rfl ?_
          refine m_goto (tgt := 18) C dL_law_1031 (by decide) ?_
          refine m_widen (c2 := 250 + 8 * x786.toInt.toNat) (s2 := 5300 + 24 * x786.toInt.toNat) (by omega) (by omega) ?_
          exact ih18 τ774 x786 S I i775 r782 r783 r784 r785 r781 (iv_wk b787 (by decide)) (by have q := hm18; omega)
        by_cases s788 : x11.toInt = 21
        · refine m_tableIn (tgt := 791) (off := 758) C dL_law_33 (by omega) (by omega) (by rw [s788]; rfl) (by decide) ?_
          have b789 : IV x11 21 21 := ⟨by omega, by omega⟩
          refine m_aload_n C dL_law_791 rfl rfl ?_
          refine m_aload_n C dL_law_792 rfl rfl ?_
          refine m_iload_n C dL_law_793 rfl rfl ?_
          refine m_iconst (v := 1) C dL_law_794 (by decide) ?_
          refine m_iadd C dL_law_795 ?_
          refine m_topi (fun x790 ex790 => ?_)
          have tx790 : x790.toInt = y3.toInt + 1 := by rw [ex790, ti_addv b8 kc_1 (by decide), kt_1]
          have b791 : IV x790 1 3067 := by rw [ex790]; exact iv_add b8 kc_1 (by decide)
          refine m_sld C hX hbl hbA ⟨by omega, by omega⟩ dL_law_796 ?_
          refine m_topi (fun x792 ex792 => ?_)
          refine m_aload_n C dL_law_797 rfl rfl ?_
          refine m_iload_n C dL_law_798 rfl rfl ?_
          refine m_iconst (v := 2) C dL_law_799 (by decide) ?_
          refine m_iadd C dL_law_800 ?_
          refine m_topi (fun x793 ex793 => ?_)
          have tx793 : x793.toInt = y3.toInt + 2 := by rw [ex793, ti_addv b8 kc_2 (by decide), kt_2]
          have b794 : IV x793 2 3068 := by rw [ex793]; exact iv_add b8 kc_2 (by decide)
          refine m_sld C hX hbl hbA ⟨by omega, by omega⟩ dL_law_801 ?_
          refine m_topi (fun x795 ex795 => ?_)
          refine m_aload_n C dL_law_802 rfl rfl ?_
          refine m_iload_n C dL_law_803 rfl rfl ?_
          refine m_iconst (v := 3) C dL_law_804 (by decide) ?_
          refine m_iadd C dL_law_805 ?_
          refine m_topi (fun x796 ex796 => ?_)
          have tx796 : x796.toInt = y3.toInt + 3 := by rw [ex796, ti_addv b8 kc_3 (by decide), kt_3]
          have b797 : IV x796 3 3069 := by rw [ex796]; exact iv_add b8 kc_3 (by decide)
          refine m_sld C hX hbl hbA ⟨by omega, by omega⟩ dL_law_806 ?_
          refine m_topi (fun x798 ex798 => ?_)
          refine m_callV (n := 3) (ci := 10) (st := []) C (c_X11_bells l G τ (x792) (x795) (x798) iτ ) (by decide) (by decide) rfl rfl rfl q3_224 q3_221 q3_222 q3_223 q1_1 (by decide +kernel) rfl (by decide) ⟨by show (250 + 8 * y3.toInt.toNat) + 0 ≤ 600000; omega, by show (5300 + 24 * y3.toInt.toNat) + 0 ≤ 7302250; omega⟩ rfl (Nat.le_of_ble_eq_true rfl) dL_law_807 ?_
          rintro _ τ799 ⟨x802, rfl, i800, f801, b803⟩
          have r806 : TR τ799 := wτ.call f801 (by decide) (by decide)
          have r807 : MA τ799 S I := mτ.fr iτ f801 (by decide) (by decide)
          have r808 : Rel τ799 := rτ.call f801 (by decide) (by decide)
          have r809 : RT τ799 := tτ.call f801 (by decide) (by decide)
          have r810 : CA τ799 S I := cτ.fr f801 (by decide) (by decide)
          show MW p l e _ s m _ below meth c _ 4 G (250 + 8 * y3.toInt.toNat) (5300 + 24 * y3.toInt.toNat) 810 [some (.ref b), some (.ref (G.1 0 0)), some (.ref (G.1 22 0)), some (.int y3)] [.int x802] τ799
          refine m_pop C dL_law_810 rfl ?_
          refine m_aload_n C dL_law_811 rfl rfl ?_
          refine m_aload_n C dL_law_812 rfl rfl ?_
          refine m_iload_n C dL_law_813 rfl rfl ?_
          refine m_iconst (v := 1) C dL_law_814 (by decide) ?_
          refine m_iadd C dL_law_815 ?_
          refine m_topi (fun x811 ex811 => ?_)
          have tx811 : x811.toInt = y3.toInt + 1 := by rw [ex811, ti_addv b8 kc_1 (by decide), kt_1]
          have b812 : IV x811 1 3067 := by rw [ex811]; exact iv_add b8 kc_1 (by decide)
          refine m_sld C hX hbl hbA ⟨by omega, by omega⟩ dL_law_816 ?_
          refine m_eqs (w := x792) (by rw [ex792, show x811.toInt.toNat = x790.toInt.toNat by omega]) ?_
          refine m_aload_n C dL_law_817 rfl rfl ?_
          refine m_iload_n C dL_law_818 rfl rfl ?_
          refine m_iconst (v := 2) C dL_law_819 (by decide) ?_
          refine m_iadd C dL_law_820 ?_
          refine m_topi (fun x813 ex813 => ?_)
          have tx813 : x813.toInt = y3.toInt + 2 := by rw [ex813, ti_addv b8 kc_2 (by decide), kt_2]
          have b814 : IV x813 2 3068 := by rw [ex813]; exact iv_add b8 kc_2 (by decide)
          refine m_sld C hX hbl hbA ⟨by omega, by omega⟩ dL_law_821 ?_
          refine m_eqs (w := x795) (by rw [ex795, show x813.toInt.toNat = x793.toInt.toNat by omega]) ?_
          refine m_aload_n C dL_law_822 rfl rfl ?_
          refine m_iload_n C dL_law_823 rfl rfl ?_
          refine m_iconst (v := 3) C dL_law_824 (by decide) ?_
          refine m_iadd C dL_law_825 ?_
          refine m_topi (fun x815 ex815 => ?_)
          have tx815 : x815.toInt = y3.toInt + 3 := by rw [ex815, ti_addv b8 kc_3 (by decide), kt_3]
          have b816 : IV x815 3 3069 := by rw [ex815]; exact iv_add b8 kc_3 (by decide)
          refine m_sld C hX hbl hbA ⟨by omega, by omega⟩ dL_law_826 ?_
          refine m_eqs (w := x798) (by rw [ex798, show x815.toInt.toNat = x796.toInt.toNat by omega]) ?_
          refine m_callV (n := 3) (ci := 11) (st := []) C (c_X12_bells l G τ799 (x792) (x795) (x798) i800 ) (by decide) (by decide) rfl rfl rfl q5_172 q5_169 q5_170 q5_171 q1_7 (by decide +kernel) rfl (by decide) ⟨by show (250 + 8 * y3.toInt.toNat) + 0 ≤ 600000; omega, by show (5300 + 24 * y3.toInt.toNat) + 0 ≤ 7302250; omega⟩ rfl (Nat.le_of_ble_eq_true rfl) dL_law_827 ?_
          rintro _ τ817 ⟨x820, rfl, i818, f819, b821⟩
          have r824 : TR τ817 := r806.call f819 (by decide) (by decide)
          have r825 : Rel τ817 := r808.call f819 (by decide) (by decide)
          have r826 : RT τ817 := r809.call f819 (by decide) (by decide)
          have r827 : CA τ817 S I := r810.fr f819 (by decide) (by decide)
          have r828 : MA τ817 S I := r807.fr i800 f819 (by decide) (by decide)
          show MW p l e _ s m _ below meth c _ 4 G (250 + 8 * y3.toInt.toNat) (5300 + 24 * y3.toInt.toNat) 830 [some (.ref b), some (.ref (G.1 0 0)), some (.ref (G.1 22 0)), some (.int y3)] [.int x820] τ817
          refine m_pop C dL_law_830 rfl ?_
          refine m_goto (tgt := 1028) C dL_law_831 (by decide) ?_
          obtain ⟨x829, ex829⟩ : ∃ y : Int32, y = y3 + 6 := ⟨_, rfl⟩
          have tx829 : x829.toInt = y3.toInt + 6 := by rw [ex829, ti_addv b8 kc_6 (by decide), kt_6]
          have b830 : IV x829 6 3072 := by rw [ex829]; exact iv_add b8 kc_6 (by decide)
          refine m_iinc (v := x829) (L1 := [some (.ref b), some (.ref (G.1 0 0)), some (.ref (G.1 22 0)), some (.int x829)]) C dL_law_1028 rfl (by rw [ex829]; rfl) (by decide) rfl rfl ?_
          refine m_goto (tgt := 18) C dL_law_1031 (by decide) ?_
          refine m_widen (c2 := 250 + 8 * x829.toInt.toNat) (s2 := 5300 + 24 * x829.toInt.toNat) (by omega) (by omega) ?_
          exact ih18 τ817 x829 S I i818 r825 r826 r827 r828 r824 (iv_wk b830 (by decide)) (by have q := hm18; omega)
        by_cases s831 : x11.toInt = 22
        · refine m_tableIn (tgt := 834) (off := 801) C dL_law_33 (by omega) (by omega) (by rw [s831]; rfl) (by decide) ?_
          have b832 : IV x11 22 22 := ⟨by omega, by omega⟩
          refine m_aload_n C dL_law_834 rfl rfl ?_
          refine m_aload_n C dL_law_835 rfl rfl ?_
          refine m_iload_n C dL_law_836 rfl rfl ?_
          refine m_iconst (v := 1) C dL_law_837 (by decide) ?_
          refine m_iadd C dL_law_838 ?_
          refine m_topi (fun x833 ex833 => ?_)
          have tx833 : x833.toInt = y3.toInt + 1 := by rw [ex833, ti_addv b8 kc_1 (by decide), kt_1]
          have b834 : IV x833 1 3067 := by rw [ex833]; exact iv_add b8 kc_1 (by decide)
          refine m_sld C hX hbl hbA ⟨by omega, by omega⟩ dL_law_839 ?_
          refine m_topi (fun x835 ex835 => ?_)
          refine m_callV (n := 1) (ci := 10) (st := []) C (c_X11_imageS l G τ S I (x835) iτ cτ) (by decide) (by decide) rfl rfl rfl q4_0 q3_237 q3_238 q3_239 q1_1 (by decide +kernel) rfl (by decide) ⟨by show (250 + 8 * y3.toInt.toNat) + 0 ≤ 600000; omega, by show (5300 + 24 * y3.toInt.toNat) + 0 ≤ 7302250; omega⟩ rfl (Nat.le_of_ble_eq_true rfl) dL_law_840 ?_
          rintro _ τ836 ⟨x839, rfl, i837, f838, b840, h842⟩
          have r843 : TR τ836 := wτ.call f838 (by decide) (by decide)
          have r844 : MA τ836 S I := mτ.fr iτ f838 (by decide) (by decide)
          have z845 := Hid.mk h842
          clear h842
          have r846 : Rel τ836 := rτ.call f838 (by decide) (by decide)
          have r847 : RT τ836 := tτ.call f838 (by decide) (by decide)
          show MW p l e _ s m _ below meth c _ 4 G (250 + 8 * y3.toInt.toNat) (5300 + 24 * y3.toInt.toNat) 843 [some (.ref b), some (.ref (G.1 0 0)), some (.ref (G.1 22 0)), some (.int y3)] [.int x839] τ836
          refine m_pop C dL_law_843 rfl ?_
          refine m_aload_n C dL_law_844 rfl rfl ?_
          refine m_aload_n C dL_law_845 rfl rfl ?_
          refine m_iload_n C dL_law_846 rfl rfl ?_
          refine m_iconst (v := 1) C dL_law_847 (by decide) ?_
          refine m_iadd C dL_law_848 ?_
          refine m_topi (fun x848 ex848 => ?_)
          have tx848 : x848.toInt = y3.toInt + 1 := by rw [ex848, ti_addv b8 kc_1 (by decide), kt_1]
          have b849 : IV x848 1 3067 := by rw [ex848]; exact iv_add b8 kc_1 (by decide)
          refine m_sld C hX hbl hbA ⟨by omega, by omega⟩ dL_law_849 ?_
          refine m_eqs (w := x835) (by rw [ex835, show x848.toInt.toNat = x833.toInt.toNat by omega]) ?_
          refine m_callV (n := 1) (ci := 11) (st := []) C (c_X12_imageS l G τ836 S I (x835) i837 r844) (by decide) (by decide) rfl rfl rfl q5_178 q5_175 q5_176 q5_177 q1_7 (by decide +kernel) rfl (by decide) ⟨by show (250 + 8 * y3.toInt.toNat) + 0 ≤ 600000; omega, by show (5300 + 24 * y3.toInt.toNat) + 0 ≤ 7302250; omega⟩ rfl (Nat.le_of_ble_eq_true rfl) dL_law_850 ?_
          rintro _ τ850 ⟨x853, rfl, i851, f852, b854, h856⟩
          have r857 : TR τ850 := r843.call f852 (by decide) (by decide)
          have r859 : Rel τ850 := r846.call f852 (by decide) (by decide)
          have r860 : RT τ850 := r847.call f852 (by decide) (by decide)
          obtain ⟨S861, h862, h863, q864⟩ := RS.imageB f852 z845 h856
          clear h856 z845
          show MW p l e _ s m _ below meth c _ 4 G (250 + 8 * y3.toInt.toNat) (5300 + 24 * y3.toInt.toNat) 853 [some (.ref b), some (.ref (G.1 0 0)), some (.ref (G.1 22 0)), some (.int y3)] [.int x853] τ850
          refine m_pop C dL_law_853 rfl ?_
          refine m_goto (tgt := 1028) C dL_law_854 (by decide) ?_
          obtain ⟨x865, ex865⟩ : ∃ y : Int32, y = y3 + 6 := ⟨_, rfl⟩
          have tx865 : x865.toInt = y3.toInt + 6 := by rw [ex865, ti_addv b8 kc_6 (by decide), kt_6]
          have b866 : IV x865 6 3072 := by rw [ex865]; exact iv_add b8 kc_6 (by decide)
          refine m_iinc (v := x865) (L1 := [some (.ref b), some (.ref (G.1 0 0)), some (.ref (G.1 22 0)), some (.int x865)]) C dL_law_1028 rfl (by rw [ex865]; rfl) (by decide) rfl rfl ?_
          refine m_goto (tgt := 18) C dL_law_1031 (by decide) ?_
          refine m_widen (c2 := 250 + 8 * x865.toInt.toNat) (s2 := 5300 + 24 * x865.toInt.toNat) (by omega) (by omega) ?_
          exact ih18 τ850 x865 S S861 i851 r859 r860 h862 h863 r857 (iv_wk b866 (by decide)) (by have q := hm18; omega)
        by_cases s867 : x11.toInt = 23
        · refine m_tableIn (tgt := 857) (off := 824) C dL_law_33 (by omega) (by omega) (by rw [s867]; rfl) (by decide) ?_
          have b868 : IV x11 23 23 := ⟨by omega, by omega⟩
          refine m_aload_n C dL_law_857 rfl rfl ?_
          refine m_aload_n C dL_law_858 rfl rfl ?_
          refine m_iload_n C dL_law_859 rfl rfl ?_
          refine m_iconst (v := 1) C dL_law_860 (by decide) ?_
          refine m_iadd C dL_law_861 ?_
          refine m_topi (fun x869 ex869 => ?_)
          have tx869 : x869.toInt = y3.toInt + 1 := by rw [ex869, ti_addv b8 kc_1 (by decide), kt_1]
          have b870 : IV x869 1 3067 := by rw [ex869]; exact iv_add b8 kc_1 (by decide)
          refine m_sld C hX hbl hbA ⟨by omega, by omega⟩ dL_law_862 ?_
          refine m_topi (fun x871 ex871 => ?_)
          refine m_callV (n := 1) (ci := 10) (st := []) C (c_X11_restoreS l G τ S I (x871) iτ cτ) (by decide) (by decide) rfl rfl rfl q4_4 q4_1 q4_2 q4_3 q1_1 (by decide +kernel) rfl (by decide) ⟨by show (250 + 8 * y3.toInt.toNat) + 0 ≤ 600000; omega, by show (5300 + 24 * y3.toInt.toNat) + 0 ≤ 7302250; omega⟩ rfl (Nat.le_of_ble_eq_true rfl) dL_law_863 ?_
          rintro _ τ872 ⟨x875, rfl, i873, f874, b876, h878⟩
          have r879 : TR τ872 := wτ.call f874 (by decide) (by decide)
          have r880 : MA τ872 S I := mτ.fr iτ f874 (by decide) (by decide)
          have z881 := Hid.mk h878
          clear h878
          have r882 : Rel τ872 := rτ.call f874 (by decide) (by decide)
          have r883 : RT τ872 := tτ.call f874 (by decide) (by decide)
          show MW p l e _ s m _ below meth c _ 4 G (250 + 8 * y3.toInt.toNat) (5300 + 24 * y3.toInt.toNat) 866 [some (.ref b), some (.ref (G.1 0 0)), some (.ref (G.1 22 0)), some (.int y3)] [.int x875] τ872
          refine m_pop C dL_law_866 rfl ?_
          refine m_aload_n C dL_law_867 rfl rfl ?_
          refine m_aload_n C dL_law_868 rfl rfl ?_
          refine m_iload_n C dL_law_869 rfl rfl ?_
          refine m_iconst (v := 1) C dL_law_870 (by decide) ?_
          refine m_iadd C dL_law_871 ?_
          refine m_topi (fun x884 ex884 => ?_)
          have tx884 : x884.toInt = y3.toInt + 1 := by rw [ex884, ti_addv b8 kc_1 (by decide), kt_1]
          have b885 : IV x884 1 3067 := by rw [ex884]; exact iv_add b8 kc_1 (by decide)
          refine m_sld C hX hbl hbA ⟨by omega, by omega⟩ dL_law_872 ?_
          refine m_eqs (w := x871) (by rw [ex871, show x884.toInt.toNat = x869.toInt.toNat by omega]) ?_
          refine m_callV (n := 1) (ci := 11) (st := []) C (c_X12_restoreS l G τ872 S I (x871) i873 r880) (by decide) (by decide) rfl rfl rfl q5_182 q5_179 q5_180 q5_181 q1_7 (by decide +kernel) rfl (by decide) ⟨by show (250 + 8 * y3.toInt.toNat) + 0 ≤ 600000; omega, by show (5300 + 24 * y3.toInt.toNat) + 0 ≤ 7302250; omega⟩ rfl (Nat.le_of_ble_eq_true rfl) dL_law_873 ?_
          rintro _ τ886 ⟨x889, rfl, i887, f888, b890, h892⟩
          have r893 : TR τ886 := r879.call f888 (by decide) (by decide)
          have r895 : Rel τ886 := r882.call f888 (by decide) (by decide)
          have r896 : RT τ886 := r883.call f888 (by decide) (by decide)
          obtain ⟨S897, h898, h899, q900⟩ := RS.restoreB f888 z881 h892
          clear h892 z881
          show MW p l e _ s m _ below meth c _ 4 G (250 + 8 * y3.toInt.toNat) (5300 + 24 * y3.toInt.toNat) 876 [some (.ref b), some (.ref (G.1 0 0)), some (.ref (G.1 22 0)), some (.int y3)] [.int x889] τ886
          refine m_pop C dL_law_876 rfl ?_
          refine m_goto (tgt := 1028) C dL_law_877 (by decide) ?_
          obtain ⟨x901, ex901⟩ : ∃ y : Int32, y = y3 + 6 := ⟨_, rfl⟩
          have tx901 : x901.toInt = y3.toInt + 6 := by rw [ex901, ti_addv b8 kc_6 (by decide), kt_6]
          have b902 : IV x901 6 3072 := by rw [ex901]; exact iv_add b8 kc_6 (by decide)
          refine m_iinc (v := x901) (L1 := [some (.ref b), some (.ref (G.1 0 0)), some (.ref (G.1 22 0)), some (.int x901)]) C dL_law_1028 rfl (by rw [ex901]; rfl) (by decide) rfl rfl ?_
          refine m_goto (tgt := 18) C dL_law_1031 (by decide) ?_
          refine m_widen (c2 := 250 + 8 * x901.toInt.toNat) (s2 := 5300 + 24 * x901.toInt.toNat) (by omega) (by omega) ?_
          exact ih18 τ886 x901 S897 I i887 r895 r896 h898 h899 r893 (iv_wk b902 (by decide)) (by have q := hm18; omega)
        by_cases s903 : x11.toInt = 24
        · refine m_tableIn (tgt := 880) (off := 847) C dL_law_33 (by omega) (by omega) (by rw [s903]; rfl) (by decide) ?_
          have b904 : IV x11 24 24 := ⟨by omega, by omega⟩
          refine m_aload_n C dL_law_880 rfl rfl ?_
          refine m_aload_n C dL_law_881 rfl rfl ?_
          refine m_iload_n C dL_law_882 rfl rfl ?_
          refine m_iconst (v := 1) C dL_law_883 (by decide) ?_
          refine m_iadd C dL_law_884 ?_
          refine m_topi (fun x905 ex905 => ?_)
          have tx905 : x905.toInt = y3.toInt + 1 := by rw [ex905, ti_addv b8 kc_1 (by decide), kt_1]
          have b906 : IV x905 1 3067 := by rw [ex905]; exact iv_add b8 kc_1 (by decide)
          refine m_sld C hX hbl hbA ⟨by omega, by omega⟩ dL_law_885 ?_
          refine m_topi (fun x907 ex907 => ?_)
          refine m_callV (n := 1) (ci := 10) (st := []) C (c_X11_kindS l G τ S I (x907) iτ cτ) (by decide) (by decide) rfl rfl rfl q4_8 q4_5 q4_6 q4_7 q1_1 (by decide +kernel) rfl (by decide) ⟨by show (250 + 8 * y3.toInt.toNat) + 0 ≤ 600000; omega, by show (5300 + 24 * y3.toInt.toNat) + 0 ≤ 7302250; omega⟩ rfl (Nat.le_of_ble_eq_true rfl) dL_law_886 ?_
          rintro _ τ908 ⟨x911, rfl, i909, f910, b912, h914⟩
          have r915 : TR τ908 := wτ.call f910 (by decide) (by decide)
          have r916 : MA τ908 S I := mτ.fr iτ f910 (by decide) (by decide)
          have z917 := Hid.mk h914
          clear h914
          have r918 : Rel τ908 := rτ.call f910 (by decide) (by decide)
          have r919 : RT τ908 := tτ.call f910 (by decide) (by decide)
          have r920 : CA τ908 S I := cτ.fr f910 (by decide) (by decide)
          show MW p l e _ s m _ below meth c _ 4 G (250 + 8 * y3.toInt.toNat) (5300 + 24 * y3.toInt.toNat) 889 [some (.ref b), some (.ref (G.1 0 0)), some (.ref (G.1 22 0)), some (.int y3)] [.int x911] τ908
          refine m_pop C dL_law_889 rfl ?_
          refine m_aload_n C dL_law_890 rfl rfl ?_
          refine m_aload_n C dL_law_891 rfl rfl ?_
          refine m_iload_n C dL_law_892 rfl rfl ?_
          refine m_iconst (v := 1) C dL_law_893 (by decide) ?_
          refine m_iadd C dL_law_894 ?_
          refine m_topi (fun x921 ex921 => ?_)
          have tx921 : x921.toInt = y3.toInt + 1 := by rw [ex921, ti_addv b8 kc_1 (by decide), kt_1]
          have b922 : IV x921 1 3067 := by rw [ex921]; exact iv_add b8 kc_1 (by decide)
          refine m_sld C hX hbl hbA ⟨by omega, by omega⟩ dL_law_895 ?_
          refine m_eqs (w := x907) (by rw [ex907, show x921.toInt.toNat = x905.toInt.toNat by omega]) ?_
          refine m_callV (n := 1) (ci := 11) (st := []) C (c_X12_kindS l G τ908 S I (x907) i909 r916) (by decide) (by decide) rfl rfl rfl q5_186 q5_183 q5_184 q5_185 q1_7 (by decide +kernel) rfl (by decide) ⟨by show (250 + 8 * y3.toInt.toNat) + 0 ≤ 600000; omega, by show (5300 + 24 * y3.toInt.toNat) + 0 ≤ 7302250; omega⟩ rfl (Nat.le_of_ble_eq_true rfl) dL_law_896 ?_
          rintro _ τ923 ⟨x926, rfl, i924, f925, b927, h929⟩
          have r930 : TR τ923 := r915.call f925 (by decide) (by decide)
          have r932 : Rel τ923 := r918.call f925 (by decide) (by decide)
          have r933 : RT τ923 := r919.call f925 (by decide) (by decide)
          have g931 := RS.kindB z917 h929
          have r934 : CA τ923 S I := r920.fr f925 (by decide) (by decide)
          have r935 : MA τ923 S I := r916.fr i909 f925 (by decide) (by decide)
          clear h929 z917
          show MW p l e _ s m _ below meth c _ 4 G (250 + 8 * y3.toInt.toNat) (5300 + 24 * y3.toInt.toNat) 899 [some (.ref b), some (.ref (G.1 0 0)), some (.ref (G.1 22 0)), some (.int y3)] [.int x926] τ923
          refine m_pop C dL_law_899 rfl ?_
          refine m_goto (tgt := 1028) C dL_law_900 (by decide) ?_
          obtain ⟨x936, ex936⟩ : ∃ y : Int32, y = y3 + 6 := ⟨_, rfl⟩
          have tx936 : x936.toInt = y3.toInt + 6 := by rw [ex936, ti_addv b8 kc_6 (by decide), kt_6]
          have b937 : IV x936 6 3072 := by rw [ex936]; exact iv_add b8 kc_6 (by decide)
          refine m_iinc (v := x936) (L1 := [some (.ref b), some (.ref (G.1 0 0)), some (.ref (G.1 22 0)), some (.int x936)]) C dL_law_1028 rfl (by rw [ex936]; rfl) (by decide) rfl rfl ?_
          refine m_goto (tgt := 18) C dL_law_1031 (by decide) ?_
          refine m_widen (c2 := 250 + 8 * x936.toInt.toNat) (s2 := 5300 + 24 * x936.toInt.toNat) (by omega) (by omega) ?_
          exact ih18 τ923 x936 S I i924 r932 r933 r934 r935 r930 (iv_wk b937 (by decide)) (by have q := hm18; omega)
        by_cases s938 : x11.toInt = 25
        · refine m_tableIn (tgt := 903) (off := 870) C dL_law_33 (by omega) (by omega) (by rw [s938]; rfl) (by decide) ?_
          have b939 : IV x11 25 25 := ⟨by omega, by omega⟩
          refine m_aload_n C dL_law_903 rfl rfl ?_
          refine m_aload_n C dL_law_904 rfl rfl ?_
          refine m_iload_n C dL_law_905 rfl rfl ?_
          refine m_iconst (v := 1) C dL_law_906 (by decide) ?_
          refine m_iadd C dL_law_907 ?_
          refine m_topi (fun x940 ex940 => ?_)
          have tx940 : x940.toInt = y3.toInt + 1 := by rw [ex940, ti_addv b8 kc_1 (by decide), kt_1]
          have b941 : IV x940 1 3067 := by rw [ex940]; exact iv_add b8 kc_1 (by decide)
          refine m_sld C hX hbl hbA ⟨by omega, by omega⟩ dL_law_908 ?_
          refine m_topi (fun x942 ex942 => ?_)
          refine m_aload_n C dL_law_909 rfl rfl ?_
          refine m_iload_n C dL_law_910 rfl rfl ?_
          refine m_iconst (v := 2) C dL_law_911 (by decide) ?_
          refine m_iadd C dL_law_912 ?_
          refine m_topi (fun x943 ex943 => ?_)
          have tx943 : x943.toInt = y3.toInt + 2 := by rw [ex943, ti_addv b8 kc_2 (by decide), kt_2]
          have b944 : IV x943 2 3068 := by rw [ex943]; exact iv_add b8 kc_2 (by decide)
          refine m_sld C hX hbl hbA ⟨by omega, by omega⟩ dL_law_913 ?_
          refine m_topi (fun x945 ex945 => ?_)
          refine m_callV (n := 2) (ci := 10) (st := []) C (c_X11_asS l G τ S I (x942) (x945) iτ cτ) (by decide) (by decide) rfl rfl rfl q4_30 q4_27 q4_28 q4_29 q1_1 (by decide +kernel) rfl (by decide) ⟨by show (250 + 8 * y3.toInt.toNat) + 0 ≤ 600000; omega, by show (5300 + 24 * y3.toInt.toNat) + 0 ≤ 7302250; omega⟩ rfl (Nat.le_of_ble_eq_true rfl) dL_law_914 ?_
          rintro _ τ946 ⟨x949, rfl, i947, f948, b950, h952⟩
          have r953 : TR τ946 := wτ.call f948 (by decide) (by decide)
          have r954 : MA τ946 S I := mτ.fr iτ f948 (by decide) (by decide)
          have z955 := Hid.mk h952
          clear h952
          have r956 : Rel τ946 := rτ.call f948 (by decide) (by decide)
          have r957 : RT τ946 := tτ.call f948 (by decide) (by decide)
          have r958 : CA τ946 S I := cτ.fr f948 (by decide) (by decide)
          show MW p l e _ s m _ below meth c _ 4 G (250 + 8 * y3.toInt.toNat) (5300 + 24 * y3.toInt.toNat) 917 [some (.ref b), some (.ref (G.1 0 0)), some (.ref (G.1 22 0)), some (.int y3)] [.int x949] τ946
          refine m_pop C dL_law_917 rfl ?_
          refine m_aload_n C dL_law_918 rfl rfl ?_
          refine m_aload_n C dL_law_919 rfl rfl ?_
          refine m_iload_n C dL_law_920 rfl rfl ?_
          refine m_iconst (v := 1) C dL_law_921 (by decide) ?_
          refine m_iadd C dL_law_922 ?_
          refine m_topi (fun x959 ex959 => ?_)
          have tx959 : x959.toInt = y3.toInt + 1 := by rw [ex959, ti_addv b8 kc_1 (by decide), kt_1]
          have b960 : IV x959 1 3067 := by rw [ex959]; exact iv_add b8 kc_1 (by decide)
          refine m_sld C hX hbl hbA ⟨by omega, by omega⟩ dL_law_923 ?_
          refine m_eqs (w := x942) (by rw [ex942, show x959.toInt.toNat = x940.toInt.toNat by omega]) ?_
          refine m_aload_n C dL_law_924 rfl rfl ?_
          refine m_iload_n C dL_law_925 rfl rfl ?_
          refine m_iconst (v := 2) C dL_law_926 (by decide) ?_
          refine m_iadd C dL_law_927 ?_
          refine m_topi (fun x961 ex961 => ?_)
          have tx961 : x961.toInt = y3.toInt + 2 := by rw [ex961, ti_addv b8 kc_2 (by decide), kt_2]
          have b962 : IV x961 2 3068 := by rw [ex961]; exact iv_add b8 kc_2 (by decide)
          refine m_sld C hX hbl hbA ⟨by omega, by omega⟩ dL_law_928 ?_
          refine m_eqs (w := x945) (by rw [ex945, show x961.toInt.toNat = x943.toInt.toNat by omega]) ?_
          refine m_callV (n := 2) (ci := 11) (st := []) C (c_X12_asS l G τ946 S I (x942) (x945) i947 r954) (by decide) (by decide) rfl rfl rfl q5_190 q5_187 q5_188 q5_189 q1_7 (by decide +kernel) rfl (by decide) ⟨by show (250 + 8 * y3.toInt.toNat) + 0 ≤ 600000; omega, by show (5300 + 24 * y3.toInt.toNat) + 0 ≤ 7302250; omega⟩ rfl (Nat.le_of_ble_eq_true rfl) dL_law_929 ?_
          rintro _ τ963 ⟨x966, rfl, i964, f965, b967, h969⟩
          have r970 : TR τ963 := r953.call f965 (by decide) (by decide)
          have r972 : Rel τ963 := r956.call f965 (by decide) (by decide)
          have r973 : RT τ963 := r957.call f965 (by decide) (by decide)
          have g971 := RS.asB z955 h969
          have r974 : CA τ963 S I := r958.fr f965 (by decide) (by decide)
          have r975 : MA τ963 S I := r954.fr i947 f965 (by decide) (by decide)
          clear h969 z955
          show MW p l e _ s m _ below meth c _ 4 G (250 + 8 * y3.toInt.toNat) (5300 + 24 * y3.toInt.toNat) 932 [some (.ref b), some (.ref (G.1 0 0)), some (.ref (G.1 22 0)), some (.int y3)] [.int x966] τ963
          refine m_pop C dL_law_932 rfl ?_
          refine m_goto (tgt := 1028) C dL_law_933 (by decide) ?_
          obtain ⟨x976, ex976⟩ : ∃ y : Int32, y = y3 + 6 := ⟨_, rfl⟩
          have tx976 : x976.toInt = y3.toInt + 6 := by rw [ex976, ti_addv b8 kc_6 (by decide), kt_6]
          have b977 : IV x976 6 3072 := by rw [ex976]; exact iv_add b8 kc_6 (by decide)
          refine m_iinc (v := x976) (L1 := [some (.ref b), some (.ref (G.1 0 0)), some (.ref (G.1 22 0)), some (.int x976)]) C dL_law_1028 rfl (by rw [ex976]; rfl) (by decide) rfl rfl ?_
          refine m_goto (tgt := 18) C dL_law_1031 (by decide) ?_
          refine m_widen (c2 := 250 + 8 * x976.toInt.toNat) (s2 := 5300 + 24 * x976.toInt.toNat) (by omega) (by omega) ?_
          exact ih18 τ963 x976 S I i964 r972 r973 r974 r975 r970 (iv_wk b977 (by decide)) (by have q := hm18; omega)
        by_cases s978 : x11.toInt = 26
        · refine m_tableIn (tgt := 936) (off := 903) C dL_law_33 (by omega) (by omega) (by rw [s978]; rfl) (by decide) ?_
          have b979 : IV x11 26 26 := ⟨by omega, by omega⟩
          refine m_aload_n C dL_law_936 rfl rfl ?_
          refine m_aload_n C dL_law_937 rfl rfl ?_
          refine m_iload_n C dL_law_938 rfl rfl ?_
          refine m_iconst (v := 1) C dL_law_939 (by decide) ?_
          refine m_iadd C dL_law_940 ?_
          refine m_topi (fun x980 ex980 => ?_)
          have tx980 : x980.toInt = y3.toInt + 1 := by rw [ex980, ti_addv b8 kc_1 (by decide), kt_1]
          have b981 : IV x980 1 3067 := by rw [ex980]; exact iv_add b8 kc_1 (by decide)
          refine m_sld C hX hbl hbA ⟨by omega, by omega⟩ dL_law_941 ?_
          refine m_topi (fun x982 ex982 => ?_)
          refine m_aload_n C dL_law_942 rfl rfl ?_
          refine m_iload_n C dL_law_943 rfl rfl ?_
          refine m_iconst (v := 2) C dL_law_944 (by decide) ?_
          refine m_iadd C dL_law_945 ?_
          refine m_topi (fun x983 ex983 => ?_)
          have tx983 : x983.toInt = y3.toInt + 2 := by rw [ex983, ti_addv b8 kc_2 (by decide), kt_2]
          have b984 : IV x983 2 3068 := by rw [ex983]; exact iv_add b8 kc_2 (by decide)
          refine m_sld C hX hbl hbA ⟨by omega, by omega⟩ dL_law_946 ?_
          refine m_topi (fun x985 ex985 => ?_)
          refine m_callV (n := 2) (ci := 10) (st := []) C (c_X11_askS l G τ S I (x982) (x985) iτ cτ (MA.stv mτ)) (by decide) (by decide) rfl rfl rfl q4_42 q4_39 q4_40 q4_41 q1_1 (by decide +kernel) rfl (by decide) ⟨by show (250 + 8 * y3.toInt.toNat) + 0 ≤ 600000; omega, by show (5300 + 24 * y3.toInt.toNat) + 0 ≤ 7302250; omega⟩ rfl (Nat.le_of_ble_eq_true rfl) dL_law_947 ?_
          rintro _ τ986 ⟨x989, rfl, i987, f988, b990, h992⟩
          have r993 : MA τ986 S I := mτ.fr iτ f988 (by decide) (by decide)
          have z994 := Hid.mk h992
          clear h992
          have r995 : Rel τ986 := rτ.call f988 (by decide) (by decide)
          have r996 : RT τ986 := tτ.call f988 (by decide) (by decide)
          have r997 : CA τ986 S I := cτ.fr f988 (by decide) (by decide)
          show MW p l e _ s m _ below meth c _ 4 G (250 + 8 * y3.toInt.toNat) (5300 + 24 * y3.toInt.toNat) 950 [some (.ref b), some (.ref (G.1 0 0)), some (.ref (G.1 22 0)), some (.int y3)] [.int x989] τ986
          refine m_pop C dL_law_950 rfl ?_
          refine m_aload_n C dL_law_951 rfl rfl ?_
          refine m_aload_n C dL_law_952 rfl rfl ?_
          refine m_iload_n C dL_law_953 rfl rfl ?_
          refine m_iconst (v := 1) C dL_law_954 (by decide) ?_
          refine m_iadd C dL_law_955 ?_
          refine m_topi (fun x998 ex998 => ?_)
          have tx998 : x998.toInt = y3.toInt + 1 := by rw [ex998, ti_addv b8 kc_1 (by decide), kt_1]
          have b999 : IV x998 1 3067 := by rw [ex998]; exact iv_add b8 kc_1 (by decide)
          refine m_sld C hX hbl hbA ⟨by omega, by omega⟩ dL_law_956 ?_
          refine m_eqs (w := x982) (by rw [ex982, show x998.toInt.toNat = x980.toInt.toNat by omega]) ?_
          refine m_aload_n C dL_law_957 rfl rfl ?_
          refine m_iload_n C dL_law_958 rfl rfl ?_
          refine m_iconst (v := 2) C dL_law_959 (by decide) ?_
          refine m_iadd C dL_law_960 ?_
          refine m_topi (fun x1000 ex1000 => ?_)
          have tx1000 : x1000.toInt = y3.toInt + 2 := by rw [ex1000, ti_addv b8 kc_2 (by decide), kt_2]
          have b1001 : IV x1000 2 3068 := by rw [ex1000]; exact iv_add b8 kc_2 (by decide)
          refine m_sld C hX hbl hbA ⟨by omega, by omega⟩ dL_law_961 ?_
          refine m_eqs (w := x985) (by rw [ex985, show x1000.toInt.toNat = x983.toInt.toNat by omega]) ?_
          refine m_callV (n := 2) (ci := 11) (st := []) C (c_X12_askS l G τ986 S I (x982) (x985) i987 r993) (by decide) (by decide) rfl rfl rfl q5_197 q5_194 q5_195 q5_196 q1_7 (by decide +kernel) rfl (by decide) ⟨by show (250 + 8 * y3.toInt.toNat) + 0 ≤ 600000; omega, by show (5300 + 24 * y3.toInt.toNat) + 0 ≤ 7302250; omega⟩ rfl (Nat.le_of_ble_eq_true rfl) dL_law_962 ?_
          rintro _ τ1002 ⟨x1005, rfl, i1003, f1004, b1006, h1008⟩
          have r1010 : Rel τ1002 := r995.call f1004 (by decide) (by decide)
          have r1011 : RT τ1002 := r996.call f1004 (by decide) (by decide)
          have g1009 := RS.askB wτ f988 f1004 z994 h1008
          have r1012 : TR τ1002 := g1009.1
          have q1013 := g1009.2
          have r1014 : CA τ1002 S I := r997.fr f1004 (by decide) (by decide)
          have r1015 : MA τ1002 S I := r993.fr i987 f1004 (by decide) (by decide)
          clear h1008 z994
          show MW p l e _ s m _ below meth c _ 4 G (250 + 8 * y3.toInt.toNat) (5300 + 24 * y3.toInt.toNat) 965 [some (.ref b), some (.ref (G.1 0 0)), some (.ref (G.1 22 0)), some (.int y3)] [.int x1005] τ1002
          refine m_pop C dL_law_965 rfl ?_
          refine m_goto (tgt := 1028) C dL_law_966 (by decide) ?_
          obtain ⟨x1016, ex1016⟩ : ∃ y : Int32, y = y3 + 6 := ⟨_, rfl⟩
          have tx1016 : x1016.toInt = y3.toInt + 6 := by rw [ex1016, ti_addv b8 kc_6 (by decide), kt_6]
          have b1017 : IV x1016 6 3072 := by rw [ex1016]; exact iv_add b8 kc_6 (by decide)
          refine m_iinc (v := x1016) (L1 := [some (.ref b), some (.ref (G.1 0 0)), some (.ref (G.1 22 0)), some (.int x1016)]) C dL_law_1028 rfl (by rw [ex1016]; rfl) (by decide) rfl rfl ?_
          refine m_goto (tgt := 18) C dL_law_1031 (by decide) ?_
          refine m_widen (c2 := 250 + 8 * x1016.toInt.toNat) (s2 := 5300 + 24 * x1016.toInt.toNat) (by omega) (by omega) ?_
          exact ih18 τ1002 x1016 S I i1003 r1010 r1011 r1014 r1015 r1012 (iv_wk b1017 (by decide)) (by have q := hm18; omega)
        by_cases s1018 : x11.toInt = 27
        · refine m_tableIn (tgt := 969) (off := 936) C dL_law_33 (by omega) (by omega) (by rw [s1018]; rfl) (by decide) ?_
          have b1019 : IV x11 27 27 := ⟨by omega, by omega⟩
          refine m_aload_n C dL_law_969 rfl rfl ?_
          refine m_aload_n C dL_law_970 rfl rfl ?_
          refine m_iload_n C dL_law_971 rfl rfl ?_
          refine m_iconst (v := 1) C dL_law_972 (by decide) ?_
          refine m_iadd C dL_law_973 ?_
          refine m_topi (fun x1020 ex1020 => ?_)
          have tx1020 : x1020.toInt = y3.toInt + 1 := by rw [ex1020, ti_addv b8 kc_1 (by decide), kt_1]
          have b1021 : IV x1020 1 3067 := by rw [ex1020]; exact iv_add b8 kc_1 (by decide)
          refine m_sld C hX hbl hbA ⟨by omega, by omega⟩ dL_law_974 ?_
          refine m_topi (fun x1022 ex1022 => ?_)
          refine m_callV (n := 1) (ci := 10) (st := []) C (c_X11_traceS l G τ (x1022) iτ ) (by decide) (by decide) rfl rfl rfl q4_97 q4_94 q4_95 q4_96 q1_1 (by decide +kernel) rfl (by decide) ⟨by show (250 + 8 * y3.toInt.toNat) + 0 ≤ 600000; omega, by show (5300 + 24 * y3.toInt.toNat) + 0 ≤ 7302250; omega⟩ rfl (Nat.le_of_ble_eq_true rfl) dL_law_975 ?_
          rintro _ τ1023 ⟨x1026, rfl, i1024, f1025, b1027, h1029⟩
          have r1030 : TR τ1023 := wτ.call f1025 (by decide) (by decide)
          have r1031 : MA τ1023 S I := mτ.fr iτ f1025 (by decide) (by decide)
          have z1032 := Hid.mk h1029
          clear h1029
          have r1033 : Rel τ1023 := rτ.call f1025 (by decide) (by decide)
          have r1034 : RT τ1023 := tτ.call f1025 (by decide) (by decide)
          have r1035 : CA τ1023 S I := cτ.fr f1025 (by decide) (by decide)
          show MW p l e _ s m _ below meth c _ 4 G (250 + 8 * y3.toInt.toNat) (5300 + 24 * y3.toInt.toNat) 978 [some (.ref b), some (.ref (G.1 0 0)), some (.ref (G.1 22 0)), some (.int y3)] [.int x1026] τ1023
          refine m_aload_n C dL_law_978 rfl rfl ?_
          refine m_aload_n C dL_law_979 rfl rfl ?_
          refine m_iload_n C dL_law_980 rfl rfl ?_
          refine m_iconst (v := 1) C dL_law_981 (by decide) ?_
          refine m_iadd C dL_law_982 ?_
          refine m_topi (fun x1036 ex1036 => ?_)
          have tx1036 : x1036.toInt = y3.toInt + 1 := by rw [ex1036, ti_addv b8 kc_1 (by decide), kt_1]
          have b1037 : IV x1036 1 3067 := by rw [ex1036]; exact iv_add b8 kc_1 (by decide)
          refine m_sld C hX hbl hbA ⟨by omega, by omega⟩ dL_law_983 ?_
          refine m_eqs (w := x1022) (by rw [ex1022, show x1036.toInt.toNat = x1020.toInt.toNat by omega]) ?_
          refine m_callV (n := 1) (ci := 11) (st := [.int x1026]) C (c_X12_traceS l G τ1023 (x1022) i1024 ) (by decide) (by decide) rfl rfl rfl q5_213 q5_210 q5_211 q5_212 q1_7 (by decide +kernel) rfl (by decide) ⟨by show (250 + 8 * y3.toInt.toNat) + 0 ≤ 600000; omega, by show (5300 + 24 * y3.toInt.toNat) + 0 ≤ 7302250; omega⟩ rfl (Nat.le_of_ble_eq_true rfl) dL_law_984 ?_
          rintro _ τ1038 ⟨x1041, rfl, i1039, f1040, b1042, h1044⟩
          have r1045 : TR τ1038 := r1030.call f1040 (by decide) (by decide)
          have r1047 : Rel τ1038 := r1033.call f1040 (by decide) (by decide)
          have r1048 : RT τ1038 := r1034.call f1040 (by decide) (by decide)
          have g1046 := RS.traceB (υ := τ1038) wτ f1025 z1032 h1044
          have r1049 : CA τ1038 S I := r1035.fr f1040 (by decide) (by decide)
          have r1050 : MA τ1038 S I := r1031.fr i1024 f1040 (by decide) (by decide)
          clear h1044 z1032
          show MW p l e _ s m _ below meth c _ 4 G (250 + 8 * y3.toInt.toNat) (5300 + 24 * y3.toInt.toNat) 987 [some (.ref b), some (.ref (G.1 0 0)), some (.ref (G.1 22 0)), some (.int y3)] [.int x1041, .int x1026] τ1038
          refine m_icmp_eq (tgt := 1028) C dL_law_987 (by decide) (fun c1051 => ?_) (fun c1051 => ?_)
          · have f1052 : x1026.toInt = x1041.toInt := by
              have q : _ := c1051
              simp only [ti_nle, ti_nlt, ti_le, ti_lt, ti_eq, ti_ne, Classical.not_not] at q
              omega
            obtain ⟨x1053, ex1053⟩ : ∃ y : Int32, y = y3 + 6 := ⟨_, rfl⟩
            have tx1053 : x1053.toInt = y3.toInt + 6 := by rw [ex1053, ti_addv b8 kc_6 (by decide), kt_6]
            have b1054 : IV x1053 6 3072 := by rw [ex1053]; exact iv_add b8 kc_6 (by decide)
            refine m_iinc (v := x1053) (L1 := [some (.ref b), some (.ref (G.1 0 0)), some (.ref (G.1 22 0)), some (.int x1053)]) C dL_law_1028 rfl (by rw [ex1053]; rfl) (by decide) rfl rfl ?_
            refine m_goto (tgt := 18) C dL_law_1031 (by decide) ?_
            refine m_widen (c2 := 250 + 8 * x1053.toInt.toNat) (s2 := 5300 + 24 * x1053.toInt.toNat) (by omega) (by omega) ?_
            exact ih18 τ1038 x1053 S I i1039 r1047 r1048 r1049 r1050 r1045 (iv_wk b1054 (by decide)) (by have q := hm18; omega)
          · have f1055 : x1026.toInt ≠ x1041.toInt := by
              have q : _ := c1051
              simp only [ti_nle, ti_nlt, ti_le, ti_lt, ti_eq, ti_ne, Classical.not_not] at q
              omega
            exfalso
            omega
        by_cases s1056 : x11.toInt = 28
        · refine m_tableIn (tgt := 992) (off := 959) C dL_law_33 (by omega) (by omega) (by rw [s1056]; rfl) (by decide) ?_
          have b1057 : IV x11 28 28 := ⟨by omega, by omega⟩
          refine m_aload_n C dL_law_992 rfl rfl ?_
          refine m_aload_n C dL_law_993 rfl rfl ?_
          refine m_iload_n C dL_law_994 rfl rfl ?_
          refine m_iconst (v := 1) C dL_law_995 (by decide) ?_
          refine m_iadd C dL_law_996 ?_
          refine m_topi (fun x1058 ex1058 => ?_)
          have tx1058 : x1058.toInt = y3.toInt + 1 := by rw [ex1058, ti_addv b8 kc_1 (by decide), kt_1]
          have b1059 : IV x1058 1 3067 := by rw [ex1058]; exact iv_add b8 kc_1 (by decide)
          refine m_sld C hX hbl hbA ⟨by omega, by omega⟩ dL_law_997 ?_
          refine m_topi (fun x1060 ex1060 => ?_)
          refine m_callV (n := 1) (ci := 10) (st := []) C (c_X11_count l G τ (x1060) iτ ) (by decide) (by decide) rfl rfl rfl q4_101 q4_98 q4_99 q4_100 q1_1 (by decide +kernel) rfl (by decide) ⟨by show (250 + 8 * y3.toInt.toNat) + 0 ≤ 600000; omega, by show (5300 + 24 * y3.toInt.toNat) + 0 ≤ 7302250; omega⟩ rfl (Nat.le_of_ble_eq_true rfl) dL_law_998 ?_
          rintro _ τ1061 ⟨x1064, rfl, i1062, f1063, b1065⟩
          have r1068 : TR τ1061 := wτ.call f1063 (by decide) (by decide)
          have r1069 : MA τ1061 S I := mτ.fr iτ f1063 (by decide) (by decide)
          have r1070 : Rel τ1061 := rτ.call f1063 (by decide) (by decide)
          have r1071 : RT τ1061 := tτ.call f1063 (by decide) (by decide)
          have r1072 : CA τ1061 S I := cτ.fr f1063 (by decide) (by decide)
          show MW p l e _ s m _ below meth c _ 4 G (250 + 8 * y3.toInt.toNat) (5300 + 24 * y3.toInt.toNat) 1001 [some (.ref b), some (.ref (G.1 0 0)), some (.ref (G.1 22 0)), some (.int y3)] [.int x1064] τ1061
          refine m_pop C dL_law_1001 rfl ?_
          refine m_aload_n C dL_law_1002 rfl rfl ?_
          refine m_aload_n C dL_law_1003 rfl rfl ?_
          refine m_iload_n C dL_law_1004 rfl rfl ?_
          refine m_iconst (v := 1) C dL_law_1005 (by decide) ?_
          refine m_iadd C dL_law_1006 ?_
          refine m_topi (fun x1073 ex1073 => ?_)
          have tx1073 : x1073.toInt = y3.toInt + 1 := by rw [ex1073, ti_addv b8 kc_1 (by decide), kt_1]
          have b1074 : IV x1073 1 3067 := by rw [ex1073]; exact iv_add b8 kc_1 (by decide)
          refine m_sld C hX hbl hbA ⟨by omega, by omega⟩ dL_law_1007 ?_
          refine m_eqs (w := x1060) (by rw [ex1060, show x1073.toInt.toNat = x1058.toInt.toNat by omega]) ?_
          refine m_callV (n := 1) (ci := 11) (st := []) C (c_X12_count l G τ1061 (x1060) i1062 ) (by decide) (by decide) rfl rfl rfl q5_217 q5_214 q5_215 q5_216 q1_7 (by decide +kernel) rfl (by decide) ⟨by show (250 + 8 * y3.toInt.toNat) + 0 ≤ 600000; omega, by show (5300 + 24 * y3.toInt.toNat) + 0 ≤ 7302250; omega⟩ rfl (Nat.le_of_ble_eq_true rfl) dL_law_1008 ?_
          rintro _ τ1075 ⟨x1078, rfl, i1076, f1077, b1079⟩
          have r1082 : TR τ1075 := r1068.call f1077 (by decide) (by decide)
          have r1083 : Rel τ1075 := r1070.call f1077 (by decide) (by decide)
          have r1084 : RT τ1075 := r1071.call f1077 (by decide) (by decide)
          have r1085 : CA τ1075 S I := r1072.fr f1077 (by decide) (by decide)
          have r1086 : MA τ1075 S I := r1069.fr i1062 f1077 (by decide) (by decide)
          show MW p l e _ s m _ below meth c _ 4 G (250 + 8 * y3.toInt.toNat) (5300 + 24 * y3.toInt.toNat) 1011 [some (.ref b), some (.ref (G.1 0 0)), some (.ref (G.1 22 0)), some (.int y3)] [.int x1078] τ1075
          refine m_pop C dL_law_1011 rfl ?_
          refine m_goto (tgt := 1028) C dL_law_1012 (by decide) ?_
          obtain ⟨x1087, ex1087⟩ : ∃ y : Int32, y = y3 + 6 := ⟨_, rfl⟩
          have tx1087 : x1087.toInt = y3.toInt + 6 := by rw [ex1087, ti_addv b8 kc_6 (by decide), kt_6]
          have b1088 : IV x1087 6 3072 := by rw [ex1087]; exact iv_add b8 kc_6 (by decide)
          refine m_iinc (v := x1087) (L1 := [some (.ref b), some (.ref (G.1 0 0)), some (.ref (G.1 22 0)), some (.int x1087)]) C dL_law_1028 rfl (by rw [ex1087]; rfl) (by decide) rfl rfl ?_
          refine m_goto (tgt := 18) C dL_law_1031 (by decide) ?_
          refine m_widen (c2 := 250 + 8 * x1087.toInt.toNat) (s2 := 5300 + 24 * x1087.toInt.toNat) (by omega) (by omega) ?_
          exact ih18 τ1075 x1087 S I i1076 r1083 r1084 r1085 r1086 r1082 (iv_wk b1088 (by decide)) (by have q := hm18; omega)
        by_cases s1089 : x11.toInt = 29
        · refine m_tableIn (tgt := 1015) (off := 982) C dL_law_33 (by omega) (by omega) (by rw [s1089]; rfl) (by decide) ?_
          have b1090 : IV x11 29 29 := ⟨by omega, by omega⟩
          refine m_aload_n C dL_law_1015 rfl rfl ?_
          refine m_callV (n := 0) (ci := 10) (st := []) C (c_X11_status l G τ  iτ ) (by decide) (by decide) rfl rfl rfl q4_109 q4_106 q4_107 q4_108 q1_1 (by decide +kernel) rfl (by decide) ⟨by show (250 + 8 * y3.toInt.toNat) + 0 ≤ 600000; omega, by show (5300 + 24 * y3.toInt.toNat) + 0 ≤ 7302250; omega⟩ rfl (Nat.le_of_ble_eq_true rfl) dL_law_1016 ?_
          rintro _ τ1091 ⟨x1094, rfl, i1092, f1093, b1095⟩
          have r1098 : TR τ1091 := wτ.call f1093 (by decide) (by decide)
          have r1099 : MA τ1091 S I := mτ.fr iτ f1093 (by decide) (by decide)
          have r1100 : Rel τ1091 := rτ.call f1093 (by decide) (by decide)
          have r1101 : RT τ1091 := tτ.call f1093 (by decide) (by decide)
          have r1102 : CA τ1091 S I := cτ.fr f1093 (by decide) (by decide)
          show MW p l e _ s m _ below meth c _ 4 G (250 + 8 * y3.toInt.toNat) (5300 + 24 * y3.toInt.toNat) 1019 [some (.ref b), some (.ref (G.1 0 0)), some (.ref (G.1 22 0)), some (.int y3)] [.int x1094] τ1091
          refine m_pop C dL_law_1019 rfl ?_
          refine m_aload_n C dL_law_1020 rfl rfl ?_
          refine m_callV (n := 0) (ci := 11) (st := []) C (c_X12_status l G τ1091  i1092 ) (by decide) (by decide) rfl rfl rfl q5_221 q5_218 q5_219 q5_220 q1_7 (by decide +kernel) rfl (by decide) ⟨by show (250 + 8 * y3.toInt.toNat) + 0 ≤ 600000; omega, by show (5300 + 24 * y3.toInt.toNat) + 0 ≤ 7302250; omega⟩ rfl (Nat.le_of_ble_eq_true rfl) dL_law_1021 ?_
          rintro _ τ1103 ⟨x1106, rfl, i1104, f1105, b1107⟩
          have r1110 : TR τ1103 := r1098.call f1105 (by decide) (by decide)
          have r1111 : Rel τ1103 := r1100.call f1105 (by decide) (by decide)
          have r1112 : RT τ1103 := r1101.call f1105 (by decide) (by decide)
          have r1113 : CA τ1103 S I := r1102.fr f1105 (by decide) (by decide)
          have r1114 : MA τ1103 S I := r1099.fr i1092 f1105 (by decide) (by decide)
          show MW p l e _ s m _ below meth c _ 4 G (250 + 8 * y3.toInt.toNat) (5300 + 24 * y3.toInt.toNat) 1024 [some (.ref b), some (.ref (G.1 0 0)), some (.ref (G.1 22 0)), some (.int y3)] [.int x1106] τ1103
          refine m_pop C dL_law_1024 rfl ?_
          refine m_goto (tgt := 1028) C dL_law_1025 (by decide) ?_
          obtain ⟨x1115, ex1115⟩ : ∃ y : Int32, y = y3 + 6 := ⟨_, rfl⟩
          have tx1115 : x1115.toInt = y3.toInt + 6 := by rw [ex1115, ti_addv b8 kc_6 (by decide), kt_6]
          have b1116 : IV x1115 6 3072 := by rw [ex1115]; exact iv_add b8 kc_6 (by decide)
          refine m_iinc (v := x1115) (L1 := [some (.ref b), some (.ref (G.1 0 0)), some (.ref (G.1 22 0)), some (.int x1115)]) C dL_law_1028 rfl (by rw [ex1115]; rfl) (by decide) rfl rfl ?_
          refine m_goto (tgt := 18) C dL_law_1031 (by decide) ?_
          refine m_widen (c2 := 250 + 8 * x1115.toInt.toNat) (s2 := 5300 + 24 * x1115.toInt.toNat) (by omega) (by omega) ?_
          exact ih18 τ1103 x1115 S I i1104 r1111 r1112 r1113 r1114 r1110 (iv_wk b1116 (by decide)) (by have q := hm18; omega)
        exact absurd s13 (by omega)
end LAW
