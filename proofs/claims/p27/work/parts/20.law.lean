def Hid (P : Prop) : Prop := P
theorem Hid.mk {P : Prop} (h : P) : Hid P := h
theorem RT.faultB {σ τ : Sg} {r1 r2 : Int32} (h : RT σ) (f1 : Fr MS_X11_faultT AS_X11_faultT σ τ) (hC : r1.toInt = (gV σ 12 0 2).toInt) (hM : r2.toInt = (gV τ 22 0 7).toInt) : r1.toInt = r2.toInt := by
  rw [hC, hM, f1.1 22 0 7 (by decide) (by decide)]
  exact h.2
theorem RS.imageB {τ υ : Sg} {S : Stt} {I : Nat → Stt} {a1 r1 r2 : Int32} (f2 : Fr MS_X12_imageS AS_X12_imageS τ υ) (hC : (((a1.toInt < 0 ∨ 1 < a1.toInt) ∧ r1.toInt = -1000001 ∧ CA τ S I) ∨ ((0 ≤ a1.toInt ∧ a1.toInt ≤ 1) ∧ S.1 ≤ 0 ∧ r1.toInt = -1000002 ∧ CA τ S I) ∨ ((0 ≤ a1.toInt ∧ a1.toInt ≤ 1) ∧ 0 < S.1 ∧ r1.toInt = 1 ∧ CA τ S (upI I (a1.toInt.toNat) S)))) (hM : (((a1.toInt < 0 ∨ 1 < a1.toInt) ∧ r2.toInt = -1000001 ∧ MA υ S I) ∨ ((0 ≤ a1.toInt ∧ a1.toInt ≤ 1) ∧ S.1 ≤ 0 ∧ r2.toInt = -1000002 ∧ MA υ S I) ∨ ((0 ≤ a1.toInt ∧ a1.toInt ≤ 1) ∧ 0 < S.1 ∧ r2.toInt = 1 ∧ MA υ S (upI I (a1.toInt.toNat) S)))) : ∃ I5, CA υ S I5 ∧ MA υ S I5 ∧ r1.toInt = r2.toInt := by
  rcases hC with ⟨c1, c2, c4⟩ | ⟨c1, c2, c3, c4⟩ | ⟨c1, c2, c3, c4⟩ <;> rcases hM with ⟨m1, m2, m4⟩ | ⟨m1, m2, m3, m4⟩ | ⟨m1, m2, m3, m4⟩
  · exact ⟨_, CA.fr c4 f2 (by decide) (by decide), m4, by omega⟩
  · exfalso; omega
  · exfalso; omega
  · exfalso; omega
  · exact ⟨_, CA.fr c4 f2 (by decide) (by decide), m4, by omega⟩
  · exfalso; omega
  · exfalso; omega
  · exfalso; omega
  · exact ⟨_, CA.fr c4 f2 (by decide) (by decide), m4, by omega⟩
theorem RS.restoreB {τ υ : Sg} {S : Stt} {I : Nat → Stt} {a1 r1 r2 : Int32} (f2 : Fr MS_X12_restoreS AS_X12_restoreS τ υ) (hC : (((a1.toInt < 0 ∨ 1 < a1.toInt) ∧ r1.toInt = -1000001 ∧ CA τ S I) ∨ ((0 ≤ a1.toInt ∧ a1.toInt ≤ 1) ∧ (I (a1.toInt.toNat)).1 ≤ 0 ∧ r1.toInt = -1000002 ∧ CA τ S I) ∨ ((0 ≤ a1.toInt ∧ a1.toInt ≤ 1) ∧ 0 < (I (a1.toInt.toNat)).1 ∧ r1.toInt = 1 ∧ CA τ (I (a1.toInt.toNat)) I))) (hM : (((a1.toInt < 0 ∨ 1 < a1.toInt) ∧ r2.toInt = -1000001 ∧ MA υ S I) ∨ ((0 ≤ a1.toInt ∧ a1.toInt ≤ 1) ∧ (I (a1.toInt.toNat)).1 ≤ 0 ∧ r2.toInt = -1000002 ∧ MA υ S I) ∨ ((0 ≤ a1.toInt ∧ a1.toInt ≤ 1) ∧ 0 < (I (a1.toInt.toNat)).1 ∧ r2.toInt = 1 ∧ MA υ (I (a1.toInt.toNat)) I))) : ∃ S5, CA υ S5 I ∧ MA υ S5 I ∧ r1.toInt = r2.toInt := by
  rcases hC with ⟨c1, c2, c4⟩ | ⟨c1, c2, c3, c4⟩ | ⟨c1, c2, c3, c4⟩ <;> rcases hM with ⟨m1, m2, m4⟩ | ⟨m1, m2, m3, m4⟩ | ⟨m1, m2, m3, m4⟩
  · exact ⟨_, CA.fr c4 f2 (by decide) (by decide), m4, by omega⟩
  · exfalso; omega
  · exfalso; omega
  · exfalso; omega
  · exact ⟨_, CA.fr c4 f2 (by decide) (by decide), m4, by omega⟩
  · exfalso; omega
  · exfalso; omega
  · exfalso; omega
  · exact ⟨_, CA.fr c4 f2 (by decide) (by decide), m4, by omega⟩
theorem RS.kindB {S : Stt} {a1 r1 r2 : Int32} (hC : (((a1.toInt < 0 ∨ S.2.1 ≤ a1.toInt) ∧ r1.toInt = -1000001) ∨ ((0 ≤ a1.toInt ∧ a1.toInt < S.2.1) ∧ r1.toInt = (S.2.2 a1.toInt.toNat).1))) (hM : (((a1.toInt < 0 ∨ S.2.1 ≤ a1.toInt) ∧ r2.toInt = -1000001) ∨ ((0 ≤ a1.toInt ∧ a1.toInt < S.2.1) ∧ r2.toInt = (S.2.2 a1.toInt.toNat).1))) : r1.toInt = r2.toInt := by omega
theorem RS.asB {S : Stt} {a1 a2 r1 r2 : Int32} (hC : ((((a1.toInt < 0 ∨ S.2.1 ≤ a1.toInt) ∨ a2.toInt < 0 ∨ 5 < a2.toInt) ∧ r1.toInt = -1000001) ∨ ((0 ≤ a1.toInt ∧ a1.toInt < S.2.1) ∧ 0 ≤ a2.toInt ∧ a2.toInt ≤ 5 ∧ (a2.toInt = 0 ∨ (S.2.2 a1.toInt.toNat).1 = a2.toInt ∨ (a2.toInt = 1 ∧ (S.2.2 a1.toInt.toNat).1 ≤ 3) ∨ (a2.toInt = 4 ∧ (S.2.2 a1.toInt.toNat).1 = 5)) ∧ r1.toInt = a1.toInt) ∨ ((0 ≤ a1.toInt ∧ a1.toInt < S.2.1) ∧ 0 ≤ a2.toInt ∧ a2.toInt ≤ 5 ∧ ¬ (a2.toInt = 0 ∨ (S.2.2 a1.toInt.toNat).1 = a2.toInt ∨ (a2.toInt = 1 ∧ (S.2.2 a1.toInt.toNat).1 ≤ 3) ∨ (a2.toInt = 4 ∧ (S.2.2 a1.toInt.toNat).1 = 5)) ∧ r1.toInt = -1000013))) (hM : ((((a1.toInt < 0 ∨ S.2.1 ≤ a1.toInt) ∨ a2.toInt < 0 ∨ 5 < a2.toInt) ∧ r2.toInt = -1000001) ∨ ((0 ≤ a1.toInt ∧ a1.toInt < S.2.1) ∧ 0 ≤ a2.toInt ∧ a2.toInt ≤ 5 ∧ (a2.toInt = 0 ∨ (S.2.2 a1.toInt.toNat).1 = a2.toInt ∨ (a2.toInt = 1 ∧ (S.2.2 a1.toInt.toNat).1 ≤ 3) ∨ (a2.toInt = 4 ∧ (S.2.2 a1.toInt.toNat).1 = 5)) ∧ r2.toInt = a1.toInt) ∨ ((0 ≤ a1.toInt ∧ a1.toInt < S.2.1) ∧ 0 ≤ a2.toInt ∧ a2.toInt ≤ 5 ∧ ¬ (a2.toInt = 0 ∨ (S.2.2 a1.toInt.toNat).1 = a2.toInt ∨ (a2.toInt = 1 ∧ (S.2.2 a1.toInt.toNat).1 ≤ 3) ∨ (a2.toInt = 4 ∧ (S.2.2 a1.toInt.toNat).1 = 5)) ∧ r2.toInt = -1000013))) : r1.toInt = r2.toInt := by omega
section LAW
set_option maxHeartbeats 8000000 in
set_option maxRecDepth 100000 in
theorem law_loop {p : Program} {e : Env} {s : State} {m : MethodId} {below : List Frame} {meth : Method} {c : Code} (l : Launch) {b L : Nat} {xs : Nat → Int32} (hL : L ≤ 3072) (C0 : lw_At p s m meth c b L xs) (G : Gt) (hG0 : G.2.2.2.1 = s.heap.size) : ∀ (n : Nat) (τ : Sg) (y3 : Int32) (S : Stt) (I : Nat → Stt), Inv τ → Rel τ → RT τ → CA τ S I → MA τ S I → IV y3 0 3078 → (3078 - y3.toInt).toNat < n → MW p l e room_1 s m #[Value.ref b] below meth c (lw_Z below #[Value.ref b] s) 4 G (250 + 8 * y3.toInt.toNat) (5300 + 24 * y3.toInt.toNat) 18 [some (.ref b), some (.ref (G.1 0 0)), some (.ref (G.1 22 0)), some (.int y3)] [] τ := by
  obtain ⟨hx, hb, hr, hml, hown, hts, hX, hbl, hlk, hgv⟩ := C0
  have C : Cx p s m #[Value.ref b] c cL_law 4 "LeanTowerLaw" := ⟨hx, hb, hml, hown, fun w hw => hts w (List.mem_filter.mp hw).1⟩
  have hbA : ¬ aG G b := fun q => by have q2 : G.2.2.2.1 ≤ b := q; omega
  have hL31 : L < 2 ^ 31 := by omega
  have k0 : (0 : Int32).toInt = 0 := by decide
  have k1 : (1 : Int32).toInt = 1 := by decide
  intro n
  induction n with
  | zero => intro τ y3 S I iτ rτ tτ cτ mτ b_y3 hm; exact absurd hm (Nat.not_lt_zero _)
  | succ n ih18 =>
      intro τ y3 S I iτ rτ tτ cτ mτ b_y3 hm18
      refine m_iload_n C dL_law_18 rfl rfl ?_
      refine m_aload_n C dL_law_19 rfl rfl ?_
      refine m_slen C hX hbl hbA hL31 dL_law_20 (fun x1 tx1 => ?_)
      have b2 : IV x1 0 3072 := ⟨by omega, by omega⟩
      refine m_bipush (v := 6) C dL_law_21 (by decide) ?_
      refine m_isub C dL_law_23 ?_
      refine m_topi (fun x3 ex3 => ?_)
      have tx3 : x3.toInt = x1.toInt - 6 := by rw [ex3, ti_subv b2 kc_6 (by decide), kt_6]
      have b4 : IV x3 (-6) 3066 := by rw [ex3]; exact iv_sub b2 kc_6 (by decide)
      refine m_icmp_gt (tgt := 1034) C dL_law_24 (by decide) (fun c5 => ?_) (fun c5 => ?_)
      · have f6 : x3.toInt < y3.toInt := by
          have q : _ := c5
          simp only [ti_nle, ti_nlt, ti_le, ti_lt, ti_eq, ti_ne, Classical.not_not] at q
          omega
        refine m_iconst (v := 1) C dL_law_1034 (by decide) ?_
        exact m_law1 C hG0 hr hlk ⟨by omega, by omega⟩ dL_law_1035
      · have f7 : y3.toInt ≤ x3.toInt := by
          have q : _ := c5
          simp only [ti_nle, ti_nlt, ti_le, ti_lt, ti_eq, ti_ne, Classical.not_not] at q
          omega
        have b8 : IV y3 0 3066 := ⟨by have q1 := b_y3; have q2 := b4; omega, by have q1 := b_y3; have q2 := b4; omega⟩
        have b9 : IV x3 0 3066 := ⟨by have q1 := b_y3; have q2 := b4; omega, by have q1 := b_y3; have q2 := b4; omega⟩
        refine m_aload_n C dL_law_27 rfl rfl ?_
        refine m_iload_n C dL_law_28 rfl rfl ?_
        refine m_sld C hX hbl hbA ⟨by omega, by omega⟩ dL_law_29 ?_
        refine m_topi (fun x10 ex10 => ?_)
        refine m_bipush (v := 31) C dL_law_30 (by decide) ?_
        refine m_iand C dL_law_32 ?_
        refine m_topi (fun x11 ex11 => ?_)
        have b12 : IV x11 0 31 := by rw [ex11]; exact iv_and_r kc_31 (by decide)
        by_cases s13 : x11.toInt < 0 ∨ 29 < x11.toInt
        · refine m_tableOut (tgt := 1028) C dL_law_33 s13 (by decide) ?_
          obtain ⟨x14, ex14⟩ : ∃ y : Int32, y = y3 + 6 := ⟨_, rfl⟩
          have tx14 : x14.toInt = y3.toInt + 6 := by rw [ex14, ti_addv b8 kc_6 (by decide), kt_6]
          have b15 : IV x14 6 3072 := by rw [ex14]; exact iv_add b8 kc_6 (by decide)
          refine m_iinc (v := x14) (L1 := [some (.ref b), some (.ref (G.1 0 0)), some (.ref (G.1 22 0)), some (.int x14)]) C dL_law_1028 rfl (by rw [ex14]; rfl) (by decide) rfl rfl ?_
          refine m_goto (tgt := 18) C dL_law_1031 (by decide) ?_
          refine m_widen (c2 := 250 + 8 * x14.toInt.toNat) (s2 := 5300 + 24 * x14.toInt.toNat) (by omega) (by omega) ?_
          exact ih18 τ x14 S I iτ rτ tτ cτ mτ (iv_wk b15 (by decide)) (by have q := hm18; omega)
        by_cases s16 : x11.toInt = 0
        · refine m_tableIn (tgt := 168) (off := 135) C dL_law_33 (by omega) (by omega) (by rw [s16]; rfl) (by decide) ?_
          have b17 : IV x11 0 0 := ⟨by omega, by omega⟩
          refine m_aload_n C dL_law_168 rfl rfl ?_
          refine m_aload_n C dL_law_169 rfl rfl ?_
          refine m_iload_n C dL_law_170 rfl rfl ?_
          refine m_iconst (v := 1) C dL_law_171 (by decide) ?_
          refine m_iadd C dL_law_172 ?_
          refine m_topi (fun x18 ex18 => ?_)
          have tx18 : x18.toInt = y3.toInt + 1 := by rw [ex18, ti_addv b8 kc_1 (by decide), kt_1]
          have b19 : IV x18 1 3067 := by rw [ex18]; exact iv_add b8 kc_1 (by decide)
          refine m_sld C hX hbl hbA ⟨by omega, by omega⟩ dL_law_173 ?_
          refine m_topi (fun x20 ex20 => ?_)
          refine m_aload_n C dL_law_174 rfl rfl ?_
          refine m_iload_n C dL_law_175 rfl rfl ?_
          refine m_iconst (v := 2) C dL_law_176 (by decide) ?_
          refine m_iadd C dL_law_177 ?_
          refine m_topi (fun x21 ex21 => ?_)
          have tx21 : x21.toInt = y3.toInt + 2 := by rw [ex21, ti_addv b8 kc_2 (by decide), kt_2]
          have b22 : IV x21 2 3068 := by rw [ex21]; exact iv_add b8 kc_2 (by decide)
          refine m_sld C hX hbl hbA ⟨by omega, by omega⟩ dL_law_178 ?_
          refine m_topi (fun x23 ex23 => ?_)
          refine m_aload_n C dL_law_179 rfl rfl ?_
          refine m_iload_n C dL_law_180 rfl rfl ?_
          refine m_iconst (v := 3) C dL_law_181 (by decide) ?_
          refine m_iadd C dL_law_182 ?_
          refine m_topi (fun x24 ex24 => ?_)
          have tx24 : x24.toInt = y3.toInt + 3 := by rw [ex24, ti_addv b8 kc_3 (by decide), kt_3]
          have b25 : IV x24 3 3069 := by rw [ex24]; exact iv_add b8 kc_3 (by decide)
          refine m_sld C hX hbl hbA ⟨by omega, by omega⟩ dL_law_183 ?_
          refine m_topi (fun x26 ex26 => ?_)
          refine m_callV (n := 3) (ci := 10) (st := []) C (c_X11_rowE l G τ (x20) (x23) (x26) iτ ) (by decide) (by decide) rfl rfl rfl q1_229 q1_226 q1_227 q1_228 q1_1 (by decide +kernel) rfl (by decide) ⟨by show (250 + 8 * y3.toInt.toNat) + 0 ≤ 600000; omega, by show (5300 + 24 * y3.toInt.toNat) + 0 ≤ 7302250; omega⟩ rfl (Nat.le_of_ble_eq_true rfl) dL_law_184 ?_
          rintro _ τ27 ⟨x30, rfl, i28, f29, b31, h33⟩
          have r34 : MA τ27 S I := mτ.fr iτ f29 (by decide) (by decide)
          have z35 := Hid.mk h33
          clear h33
          have r36 : RT τ27 := tτ.call f29 (by decide) (by decide)
          have r37 : CA τ27 S I := cτ.fr f29 (by decide) (by decide)
          show MW p l e _ s m _ below meth c _ 4 G (250 + 8 * y3.toInt.toNat) (5300 + 24 * y3.toInt.toNat) 187 [some (.ref b), some (.ref (G.1 0 0)), some (.ref (G.1 22 0)), some (.int y3)] [.int x30] τ27
          refine m_pop C dL_law_187 rfl ?_
          refine m_aload_n C dL_law_188 rfl rfl ?_
          refine m_aload_n C dL_law_189 rfl rfl ?_
          refine m_iload_n C dL_law_190 rfl rfl ?_
          refine m_iconst (v := 1) C dL_law_191 (by decide) ?_
          refine m_iadd C dL_law_192 ?_
          refine m_topi (fun x38 ex38 => ?_)
          have tx38 : x38.toInt = y3.toInt + 1 := by rw [ex38, ti_addv b8 kc_1 (by decide), kt_1]
          have b39 : IV x38 1 3067 := by rw [ex38]; exact iv_add b8 kc_1 (by decide)
          refine m_sld C hX hbl hbA ⟨by omega, by omega⟩ dL_law_193 ?_
          refine m_eqs (w := x20) (by rw [ex20, show x38.toInt.toNat = x18.toInt.toNat by omega]) ?_
          refine m_aload_n C dL_law_194 rfl rfl ?_
          refine m_iload_n C dL_law_195 rfl rfl ?_
          refine m_iconst (v := 2) C dL_law_196 (by decide) ?_
          refine m_iadd C dL_law_197 ?_
          refine m_topi (fun x40 ex40 => ?_)
          have tx40 : x40.toInt = y3.toInt + 2 := by rw [ex40, ti_addv b8 kc_2 (by decide), kt_2]
          have b41 : IV x40 2 3068 := by rw [ex40]; exact iv_add b8 kc_2 (by decide)
          refine m_sld C hX hbl hbA ⟨by omega, by omega⟩ dL_law_198 ?_
          refine m_eqs (w := x23) (by rw [ex23, show x40.toInt.toNat = x21.toInt.toNat by omega]) ?_
          refine m_aload_n C dL_law_199 rfl rfl ?_
          refine m_iload_n C dL_law_200 rfl rfl ?_
          refine m_iconst (v := 3) C dL_law_201 (by decide) ?_
          refine m_iadd C dL_law_202 ?_
          refine m_topi (fun x42 ex42 => ?_)
          have tx42 : x42.toInt = y3.toInt + 3 := by rw [ex42, ti_addv b8 kc_3 (by decide), kt_3]
          have b43 : IV x42 3 3069 := by rw [ex42]; exact iv_add b8 kc_3 (by decide)
          refine m_sld C hX hbl hbA ⟨by omega, by omega⟩ dL_law_203 ?_
          refine m_eqs (w := x26) (by rw [ex26, show x42.toInt.toNat = x24.toInt.toNat by omega]) ?_
          refine m_callV (n := 3) (ci := 11) (st := []) C (c_X12_rowE l G τ27 (x20) (x23) (x26) i28 ) (by decide) (by decide) rfl rfl rfl q4_183 q4_180 q4_181 q4_182 q1_7 (by decide +kernel) rfl (by decide) ⟨by show (250 + 8 * y3.toInt.toNat) + 0 ≤ 600000; omega, by show (5300 + 24 * y3.toInt.toNat) + 0 ≤ 7302250; omega⟩ rfl (Nat.le_of_ble_eq_true rfl) dL_law_204 ?_
          rintro _ τ44 ⟨x47, rfl, i45, f46, b48, h50⟩
          have g51 := Rel.rowB rτ f29 f46 z35 h50
          have r52 : Rel τ44 := g51.1
          have q53 := g51.2
          have r54 : RT τ44 := r36.call f46 (by decide) (by decide)
          have r55 : CA τ44 S I := r37.fr f46 (by decide) (by decide)
          have r56 : MA τ44 S I := r34.fr i28 f46 (by decide) (by decide)
          clear h50 z35
          show MW p l e _ s m _ below meth c _ 4 G (250 + 8 * y3.toInt.toNat) (5300 + 24 * y3.toInt.toNat) 207 [some (.ref b), some (.ref (G.1 0 0)), some (.ref (G.1 22 0)), some (.int y3)] [.int x47] τ44
          refine m_pop C dL_law_207 rfl ?_
          refine m_goto (tgt := 1028) C dL_law_208 (by decide) ?_
          obtain ⟨x57, ex57⟩ : ∃ y : Int32, y = y3 + 6 := ⟨_, rfl⟩
          have tx57 : x57.toInt = y3.toInt + 6 := by rw [ex57, ti_addv b8 kc_6 (by decide), kt_6]
          have b58 : IV x57 6 3072 := by rw [ex57]; exact iv_add b8 kc_6 (by decide)
          refine m_iinc (v := x57) (L1 := [some (.ref b), some (.ref (G.1 0 0)), some (.ref (G.1 22 0)), some (.int x57)]) C dL_law_1028 rfl (by rw [ex57]; rfl) (by decide) rfl rfl ?_
          refine m_goto (tgt := 18) C dL_law_1031 (by decide) ?_
          refine m_widen (c2 := 250 + 8 * x57.toInt.toNat) (s2 := 5300 + 24 * x57.toInt.toNat) (by omega) (by omega) ?_
          exact ih18 τ44 x57 S I i45 r52 r54 r55 r56 (iv_wk b58 (by decide)) (by have q := hm18; omega)
        by_cases s59 : x11.toInt = 1
        · refine m_tableIn (tgt := 211) (off := 178) C dL_law_33 (by omega) (by omega) (by rw [s59]; rfl) (by decide) ?_
          have b60 : IV x11 1 1 := ⟨by omega, by omega⟩
          refine m_aload_n C dL_law_211 rfl rfl ?_
          refine m_aload_n C dL_law_212 rfl rfl ?_
          refine m_iload_n C dL_law_213 rfl rfl ?_
          refine m_iconst (v := 1) C dL_law_214 (by decide) ?_
          refine m_iadd C dL_law_215 ?_
          refine m_topi (fun x61 ex61 => ?_)
          have tx61 : x61.toInt = y3.toInt + 1 := by rw [ex61, ti_addv b8 kc_1 (by decide), kt_1]
          have b62 : IV x61 1 3067 := by rw [ex61]; exact iv_add b8 kc_1 (by decide)
          refine m_sld C hX hbl hbA ⟨by omega, by omega⟩ dL_law_216 ?_
          refine m_topi (fun x63 ex63 => ?_)
          refine m_aload_n C dL_law_217 rfl rfl ?_
          refine m_iload_n C dL_law_218 rfl rfl ?_
          refine m_iconst (v := 2) C dL_law_219 (by decide) ?_
          refine m_iadd C dL_law_220 ?_
          refine m_topi (fun x64 ex64 => ?_)
          have tx64 : x64.toInt = y3.toInt + 2 := by rw [ex64, ti_addv b8 kc_2 (by decide), kt_2]
          have b65 : IV x64 2 3068 := by rw [ex64]; exact iv_add b8 kc_2 (by decide)
          refine m_sld C hX hbl hbA ⟨by omega, by omega⟩ dL_law_221 ?_
          refine m_topi (fun x66 ex66 => ?_)
          refine m_aload_n C dL_law_222 rfl rfl ?_
          refine m_iload_n C dL_law_223 rfl rfl ?_
          refine m_iconst (v := 3) C dL_law_224 (by decide) ?_
          refine m_iadd C dL_law_225 ?_
          refine m_topi (fun x67 ex67 => ?_)
          have tx67 : x67.toInt = y3.toInt + 3 := by rw [ex67, ti_addv b8 kc_3 (by decide), kt_3]
          have b68 : IV x67 3 3069 := by rw [ex67]; exact iv_add b8 kc_3 (by decide)
          refine m_sld C hX hbl hbA ⟨by omega, by omega⟩ dL_law_226 ?_
          refine m_topi (fun x69 ex69 => ?_)
          refine m_callV (n := 3) (ci := 10) (st := []) C (c_X11_setE l G τ (x63) (x66) (x69) iτ ) (by decide) (by decide) rfl rfl rfl q2_11 q2_8 q2_9 q2_10 q1_1 (by decide +kernel) rfl (by decide) ⟨by show (250 + 8 * y3.toInt.toNat) + 0 ≤ 600000; omega, by show (5300 + 24 * y3.toInt.toNat) + 0 ≤ 7302250; omega⟩ rfl (Nat.le_of_ble_eq_true rfl) dL_law_227 ?_
          rintro _ τ70 ⟨x73, rfl, i71, f72, b74, h76⟩
          have r77 : MA τ70 S I := mτ.fr iτ f72 (by decide) (by decide)
          have z78 := Hid.mk h76
          clear h76
          have r79 : Rel τ70 := rτ.call f72 (by decide) (by decide)
          have r80 : RT τ70 := tτ.call f72 (by decide) (by decide)
          have r81 : CA τ70 S I := cτ.fr f72 (by decide) (by decide)
          show MW p l e _ s m _ below meth c _ 4 G (250 + 8 * y3.toInt.toNat) (5300 + 24 * y3.toInt.toNat) 230 [some (.ref b), some (.ref (G.1 0 0)), some (.ref (G.1 22 0)), some (.int y3)] [.int x73] τ70
          refine m_pop C dL_law_230 rfl ?_
          refine m_aload_n C dL_law_231 rfl rfl ?_
          refine m_aload_n C dL_law_232 rfl rfl ?_
          refine m_iload_n C dL_law_233 rfl rfl ?_
          refine m_iconst (v := 1) C dL_law_234 (by decide) ?_
          refine m_iadd C dL_law_235 ?_
          refine m_topi (fun x82 ex82 => ?_)
          have tx82 : x82.toInt = y3.toInt + 1 := by rw [ex82, ti_addv b8 kc_1 (by decide), kt_1]
          have b83 : IV x82 1 3067 := by rw [ex82]; exact iv_add b8 kc_1 (by decide)
          refine m_sld C hX hbl hbA ⟨by omega, by omega⟩ dL_law_236 ?_
          refine m_eqs (w := x63) (by rw [ex63, show x82.toInt.toNat = x61.toInt.toNat by omega]) ?_
          refine m_aload_n C dL_law_237 rfl rfl ?_
          refine m_iload_n C dL_law_238 rfl rfl ?_
          refine m_iconst (v := 2) C dL_law_239 (by decide) ?_
          refine m_iadd C dL_law_240 ?_
          refine m_topi (fun x84 ex84 => ?_)
          have tx84 : x84.toInt = y3.toInt + 2 := by rw [ex84, ti_addv b8 kc_2 (by decide), kt_2]
          have b85 : IV x84 2 3068 := by rw [ex84]; exact iv_add b8 kc_2 (by decide)
          refine m_sld C hX hbl hbA ⟨by omega, by omega⟩ dL_law_241 ?_
          refine m_eqs (w := x66) (by rw [ex66, show x84.toInt.toNat = x64.toInt.toNat by omega]) ?_
          refine m_aload_n C dL_law_242 rfl rfl ?_
          refine m_iload_n C dL_law_243 rfl rfl ?_
          refine m_iconst (v := 3) C dL_law_244 (by decide) ?_
          refine m_iadd C dL_law_245 ?_
          refine m_topi (fun x86 ex86 => ?_)
          have tx86 : x86.toInt = y3.toInt + 3 := by rw [ex86, ti_addv b8 kc_3 (by decide), kt_3]
          have b87 : IV x86 3 3069 := by rw [ex86]; exact iv_add b8 kc_3 (by decide)
          refine m_sld C hX hbl hbA ⟨by omega, by omega⟩ dL_law_246 ?_
          refine m_eqs (w := x69) (by rw [ex69, show x86.toInt.toNat = x67.toInt.toNat by omega]) ?_
          refine m_callV (n := 3) (ci := 11) (st := []) C (c_X12_setE l G τ70 (x63) (x66) (x69) i71 ) (by decide) (by decide) rfl rfl rfl q4_205 q4_202 q4_203 q4_204 q1_7 (by decide +kernel) rfl (by decide) ⟨by show (250 + 8 * y3.toInt.toNat) + 0 ≤ 600000; omega, by show (5300 + 24 * y3.toInt.toNat) + 0 ≤ 7302250; omega⟩ rfl (Nat.le_of_ble_eq_true rfl) dL_law_247 ?_
          rintro _ τ88 ⟨x91, rfl, i89, f90, b92, h94⟩
          have g95 := Rel.setB rτ f72 f90 z78 h94
          have r96 : Rel τ88 := r79.call f90 (by decide) (by decide)
          have r97 : RT τ88 := r80.call f90 (by decide) (by decide)
          have r98 : CA τ88 S I := r81.fr f90 (by decide) (by decide)
          have r99 : MA τ88 S I := r77.fr i71 f90 (by decide) (by decide)
          clear h94 z78
          show MW p l e _ s m _ below meth c _ 4 G (250 + 8 * y3.toInt.toNat) (5300 + 24 * y3.toInt.toNat) 250 [some (.ref b), some (.ref (G.1 0 0)), some (.ref (G.1 22 0)), some (.int y3)] [.int x91] τ88
          refine m_pop C dL_law_250 rfl ?_
          refine m_goto (tgt := 1028) C dL_law_251 (by decide) ?_
          obtain ⟨x100, ex100⟩ : ∃ y : Int32, y = y3 + 6 := ⟨_, rfl⟩
          have tx100 : x100.toInt = y3.toInt + 6 := by rw [ex100, ti_addv b8 kc_6 (by decide), kt_6]
          have b101 : IV x100 6 3072 := by rw [ex100]; exact iv_add b8 kc_6 (by decide)
          refine m_iinc (v := x100) (L1 := [some (.ref b), some (.ref (G.1 0 0)), some (.ref (G.1 22 0)), some (.int x100)]) C dL_law_1028 rfl (by rw [ex100]; rfl) (by decide) rfl rfl ?_
          refine m_goto (tgt := 18) C dL_law_1031 (by decide) ?_
          refine m_widen (c2 := 250 + 8 * x100.toInt.toNat) (s2 := 5300 + 24 * x100.toInt.toNat) (by omega) (by omega) ?_
          exact ih18 τ88 x100 S I i89 r96 r97 r98 r99 (iv_wk b101 (by decide)) (by have q := hm18; omega)
        by_cases s102 : x11.toInt = 2
        · refine m_tableIn (tgt := 254) (off := 221) C dL_law_33 (by omega) (by omega) (by rw [s102]; rfl) (by decide) ?_
          have b103 : IV x11 2 2 := ⟨by omega, by omega⟩
          refine m_aload_n C dL_law_254 rfl rfl ?_
          refine m_aload_n C dL_law_255 rfl rfl ?_
          refine m_iload_n C dL_law_256 rfl rfl ?_
          refine m_iconst (v := 1) C dL_law_257 (by decide) ?_
          refine m_iadd C dL_law_258 ?_
          refine m_topi (fun x104 ex104 => ?_)
          have tx104 : x104.toInt = y3.toInt + 1 := by rw [ex104, ti_addv b8 kc_1 (by decide), kt_1]
          have b105 : IV x104 1 3067 := by rw [ex104]; exact iv_add b8 kc_1 (by decide)
          refine m_sld C hX hbl hbA ⟨by omega, by omega⟩ dL_law_259 ?_
          refine m_topi (fun x106 ex106 => ?_)
          refine m_aload_n C dL_law_260 rfl rfl ?_
          refine m_iload_n C dL_law_261 rfl rfl ?_
          refine m_iconst (v := 2) C dL_law_262 (by decide) ?_
          refine m_iadd C dL_law_263 ?_
          refine m_topi (fun x107 ex107 => ?_)
          have tx107 : x107.toInt = y3.toInt + 2 := by rw [ex107, ti_addv b8 kc_2 (by decide), kt_2]
          have b108 : IV x107 2 3068 := by rw [ex107]; exact iv_add b8 kc_2 (by decide)
          refine m_sld C hX hbl hbA ⟨by omega, by omega⟩ dL_law_264 ?_
          refine m_topi (fun x109 ex109 => ?_)
          refine m_aload_n C dL_law_265 rfl rfl ?_
          refine m_iload_n C dL_law_266 rfl rfl ?_
          refine m_iconst (v := 3) C dL_law_267 (by decide) ?_
          refine m_iadd C dL_law_268 ?_
          refine m_topi (fun x110 ex110 => ?_)
          have tx110 : x110.toInt = y3.toInt + 3 := by rw [ex110, ti_addv b8 kc_3 (by decide), kt_3]
          have b111 : IV x110 3 3069 := by rw [ex110]; exact iv_add b8 kc_3 (by decide)
          refine m_sld C hX hbl hbA ⟨by omega, by omega⟩ dL_law_269 ?_
          refine m_topi (fun x112 ex112 => ?_)
          refine m_aload_n C dL_law_270 rfl rfl ?_
          refine m_iload_n C dL_law_271 rfl rfl ?_
          refine m_iconst (v := 4) C dL_law_272 (by decide) ?_
          refine m_iadd C dL_law_273 ?_
          refine m_topi (fun x113 ex113 => ?_)
          have tx113 : x113.toInt = y3.toInt + 4 := by rw [ex113, ti_addv b8 kc_4 (by decide), kt_4]
          have b114 : IV x113 4 3070 := by rw [ex113]; exact iv_add b8 kc_4 (by decide)
          refine m_sld C hX hbl hbA ⟨by omega, by omega⟩ dL_law_274 ?_
          refine m_topi (fun x115 ex115 => ?_)
          refine m_aload_n C dL_law_275 rfl rfl ?_
          refine m_iload_n C dL_law_276 rfl rfl ?_
          refine m_iconst (v := 5) C dL_law_277 (by decide) ?_
          refine m_iadd C dL_law_278 ?_
          refine m_topi (fun x116 ex116 => ?_)
          have tx116 : x116.toInt = y3.toInt + 5 := by rw [ex116, ti_addv b8 kc_5 (by decide), kt_5]
          have b117 : IV x116 5 3071 := by rw [ex116]; exact iv_add b8 kc_5 (by decide)
          refine m_sld C hX hbl hbA ⟨by omega, by omega⟩ dL_law_279 ?_
          refine m_topi (fun x118 ex118 => ?_)
          refine m_callV (n := 5) (ci := 10) (st := []) C (c_X11_copyE l G τ (x106) (x109) (x112) (x115) (x118) iτ ) (by decide) (by decide) rfl rfl rfl q2_23 q2_20 q2_21 q2_22 q1_1 (by decide +kernel) rfl (by decide) ⟨by show (250 + 8 * y3.toInt.toNat) + 0 ≤ 600000; omega, by show (5300 + 24 * y3.toInt.toNat) + 0 ≤ 7302250; omega⟩ rfl (Nat.le_of_ble_eq_true rfl) dL_law_280 ?_
          rintro _ τ119 ⟨x122, rfl, i120, f121, b123, h125⟩
          have r126 : MA τ119 S I := mτ.fr iτ f121 (by decide) (by decide)
          have z127 := Hid.mk h125
          clear h125
          have r128 : Rel τ119 := rτ.call f121 (by decide) (by decide)
          have r129 : RT τ119 := tτ.call f121 (by decide) (by decide)
          have r130 : CA τ119 S I := cτ.fr f121 (by decide) (by decide)
          show MW p l e _ s m _ below meth c _ 4 G (250 + 8 * y3.toInt.toNat) (5300 + 24 * y3.toInt.toNat) 283 [some (.ref b), some (.ref (G.1 0 0)), some (.ref (G.1 22 0)), some (.int y3)] [.int x122] τ119
          refine m_pop C dL_law_283 rfl ?_
          refine m_aload_n C dL_law_284 rfl rfl ?_
          refine m_aload_n C dL_law_285 rfl rfl ?_
          refine m_iload_n C dL_law_286 rfl rfl ?_
          refine m_iconst (v := 1) C dL_law_287 (by decide) ?_
          refine m_iadd C dL_law_288 ?_
          refine m_topi (fun x131 ex131 => ?_)
          have tx131 : x131.toInt = y3.toInt + 1 := by rw [ex131, ti_addv b8 kc_1 (by decide), kt_1]
          have b132 : IV x131 1 3067 := by rw [ex131]; exact iv_add b8 kc_1 (by decide)
          refine m_sld C hX hbl hbA ⟨by omega, by omega⟩ dL_law_289 ?_
          refine m_eqs (w := x106) (by rw [ex106, show x131.toInt.toNat = x104.toInt.toNat by omega]) ?_
          refine m_aload_n C dL_law_290 rfl rfl ?_
          refine m_iload_n C dL_law_291 rfl rfl ?_
          refine m_iconst (v := 2) C dL_law_292 (by decide) ?_
          refine m_iadd C dL_law_293 ?_
          refine m_topi (fun x133 ex133 => ?_)
          have tx133 : x133.toInt = y3.toInt + 2 := by rw [ex133, ti_addv b8 kc_2 (by decide), kt_2]
          have b134 : IV x133 2 3068 := by rw [ex133]; exact iv_add b8 kc_2 (by decide)
          refine m_sld C hX hbl hbA ⟨by omega, by omega⟩ dL_law_294 ?_
          refine m_eqs (w := x109) (by rw [ex109, show x133.toInt.toNat = x107.toInt.toNat by omega]) ?_
          refine m_aload_n C dL_law_295 rfl rfl ?_
          refine m_iload_n C dL_law_296 rfl rfl ?_
          refine m_iconst (v := 3) C dL_law_297 (by decide) ?_
          refine m_iadd C dL_law_298 ?_
          refine m_topi (fun x135 ex135 => ?_)
          have tx135 : x135.toInt = y3.toInt + 3 := by rw [ex135, ti_addv b8 kc_3 (by decide), kt_3]
          have b136 : IV x135 3 3069 := by rw [ex135]; exact iv_add b8 kc_3 (by decide)
          refine m_sld C hX hbl hbA ⟨by omega, by omega⟩ dL_law_299 ?_
          refine m_eqs (w := x112) (by rw [ex112, show x135.toInt.toNat = x110.toInt.toNat by omega]) ?_
          refine m_aload_n C dL_law_300 rfl rfl ?_
          refine m_iload_n C dL_law_301 rfl rfl ?_
          refine m_iconst (v := 4) C dL_law_302 (by decide) ?_
          refine m_iadd C dL_law_303 ?_
          refine m_topi (fun x137 ex137 => ?_)
          have tx137 : x137.toInt = y3.toInt + 4 := by rw [ex137, ti_addv b8 kc_4 (by decide), kt_4]
          have b138 : IV x137 4 3070 := by rw [ex137]; exact iv_add b8 kc_4 (by decide)
          refine m_sld C hX hbl hbA ⟨by omega, by omega⟩ dL_law_304 ?_
          refine m_eqs (w := x115) (by rw [ex115, show x137.toInt.toNat = x113.toInt.toNat by omega]) ?_
          refine m_aload_n C dL_law_305 rfl rfl ?_
          refine m_iload_n C dL_law_306 rfl rfl ?_
          refine m_iconst (v := 5) C dL_law_307 (by decide) ?_
          refine m_iadd C dL_law_308 ?_
          refine m_topi (fun x139 ex139 => ?_)
          have tx139 : x139.toInt = y3.toInt + 5 := by rw [ex139, ti_addv b8 kc_5 (by decide), kt_5]
          have b140 : IV x139 5 3071 := by rw [ex139]; exact iv_add b8 kc_5 (by decide)
          refine m_sld C hX hbl hbA ⟨by omega, by omega⟩ dL_law_309 ?_
          refine m_eqs (w := x118) (by rw [ex118, show x139.toInt.toNat = x116.toInt.toNat by omega]) ?_
          refine m_callV (n := 5) (ci := 11) (st := []) C (c_X12_copyE l G τ119 (x106) (x109) (x112) (x115) (x118) i120 ) (by decide) (by decide) rfl rfl rfl q4_212 q4_209 q4_210 q4_211 q1_7 (by decide +kernel) rfl (by decide) ⟨by show (250 + 8 * y3.toInt.toNat) + 0 ≤ 600000; omega, by show (5300 + 24 * y3.toInt.toNat) + 0 ≤ 7302250; omega⟩ rfl (Nat.le_of_ble_eq_true rfl) dL_law_310 ?_
          rintro _ τ141 ⟨x144, rfl, i142, f143, b145, h147⟩
          have g148 := Rel.copyB rτ f121 f143 z127 h147
          have r149 : Rel τ141 := r128.call f143 (by decide) (by decide)
          have r150 : RT τ141 := r129.call f143 (by decide) (by decide)
          have r151 : CA τ141 S I := r130.fr f143 (by decide) (by decide)
          have r152 : MA τ141 S I := r126.fr i120 f143 (by decide) (by decide)
          clear h147 z127
          show MW p l e _ s m _ below meth c _ 4 G (250 + 8 * y3.toInt.toNat) (5300 + 24 * y3.toInt.toNat) 313 [some (.ref b), some (.ref (G.1 0 0)), some (.ref (G.1 22 0)), some (.int y3)] [.int x144] τ141
          refine m_pop C dL_law_313 rfl ?_
          refine m_goto (tgt := 1028) C dL_law_314 (by decide) ?_
          obtain ⟨x153, ex153⟩ : ∃ y : Int32, y = y3 + 6 := ⟨_, rfl⟩
          have tx153 : x153.toInt = y3.toInt + 6 := by rw [ex153, ti_addv b8 kc_6 (by decide), kt_6]
          have b154 : IV x153 6 3072 := by rw [ex153]; exact iv_add b8 kc_6 (by decide)
          refine m_iinc (v := x153) (L1 := [some (.ref b), some (.ref (G.1 0 0)), some (.ref (G.1 22 0)), some (.int x153)]) C dL_law_1028 rfl (by rw [ex153]; rfl) (by decide) rfl rfl ?_
          refine m_goto (tgt := 18) C dL_law_1031 (by decide) ?_
          refine m_widen (c2 := 250 + 8 * x153.toInt.toNat) (s2 := 5300 + 24 * x153.toInt.toNat) (by omega) (by omega) ?_
          exact ih18 τ141 x153 S I i142 r149 r150 r151 r152 (iv_wk b154 (by decide)) (by have q := hm18; omega)
        by_cases s155 : x11.toInt = 3
        · refine m_tableIn (tgt := 317) (off := 284) C dL_law_33 (by omega) (by omega) (by rw [s155]; rfl) (by decide) ?_
          have b156 : IV x11 3 3 := ⟨by omega, by omega⟩
          refine m_aload_n C dL_law_317 rfl rfl ?_
          refine m_aload_n C dL_law_318 rfl rfl ?_
          refine m_iload_n C dL_law_319 rfl rfl ?_
          refine m_iconst (v := 1) C dL_law_320 (by decide) ?_
          refine m_iadd C dL_law_321 ?_
          refine m_topi (fun x157 ex157 => ?_)
          have tx157 : x157.toInt = y3.toInt + 1 := by rw [ex157, ti_addv b8 kc_1 (by decide), kt_1]
          have b158 : IV x157 1 3067 := by rw [ex157]; exact iv_add b8 kc_1 (by decide)
          refine m_sld C hX hbl hbA ⟨by omega, by omega⟩ dL_law_322 ?_
          refine m_topi (fun x159 ex159 => ?_)
          refine m_callV (n := 1) (ci := 10) (st := []) C (c_X11_dropE l G τ (x159) iτ ) (by decide) (by decide) rfl rfl rfl q2_34 q2_31 q2_32 q2_33 q1_1 (by decide +kernel) rfl (by decide) ⟨by show (250 + 8 * y3.toInt.toNat) + 0 ≤ 600000; omega, by show (5300 + 24 * y3.toInt.toNat) + 0 ≤ 7302250; omega⟩ rfl (Nat.le_of_ble_eq_true rfl) dL_law_323 ?_
          rintro _ τ160 ⟨x163, rfl, i161, f162, b164, h166⟩
          have r167 : MA τ160 S I := mτ.fr iτ f162 (by decide) (by decide)
          have z168 := Hid.mk h166
          clear h166
          have r169 : RT τ160 := tτ.call f162 (by decide) (by decide)
          have r170 : CA τ160 S I := cτ.fr f162 (by decide) (by decide)
          show MW p l e _ s m _ below meth c _ 4 G (250 + 8 * y3.toInt.toNat) (5300 + 24 * y3.toInt.toNat) 326 [some (.ref b), some (.ref (G.1 0 0)), some (.ref (G.1 22 0)), some (.int y3)] [.int x163] τ160
          refine m_pop C dL_law_326 rfl ?_
          refine m_aload_n C dL_law_327 rfl rfl ?_
          refine m_aload_n C dL_law_328 rfl rfl ?_
          refine m_iload_n C dL_law_329 rfl rfl ?_
          refine m_iconst (v := 1) C dL_law_330 (by decide) ?_
          refine m_iadd C dL_law_331 ?_
          refine m_topi (fun x171 ex171 => ?_)
          have tx171 : x171.toInt = y3.toInt + 1 := by rw [ex171, ti_addv b8 kc_1 (by decide), kt_1]
          have b172 : IV x171 1 3067 := by rw [ex171]; exact iv_add b8 kc_1 (by decide)
          refine m_sld C hX hbl hbA ⟨by omega, by omega⟩ dL_law_332 ?_
          refine m_eqs (w := x159) (by rw [ex159, show x171.toInt.toNat = x157.toInt.toNat by omega]) ?_
          refine m_callV (n := 1) (ci := 11) (st := []) C (c_X12_dropE l G τ160 (x159) i161 ) (by decide) (by decide) rfl rfl rfl q4_216 q4_213 q4_214 q4_215 q1_7 (by decide +kernel) rfl (by decide) ⟨by show (250 + 8 * y3.toInt.toNat) + 0 ≤ 600000; omega, by show (5300 + 24 * y3.toInt.toNat) + 0 ≤ 7302250; omega⟩ rfl (Nat.le_of_ble_eq_true rfl) dL_law_333 ?_
          rintro _ τ173 ⟨x176, rfl, i174, f175, b177, h179⟩
          have g180 := Rel.dropB rτ f162 f175 z168 h179
          have r181 : Rel τ173 := g180.1
          have q182 := g180.2
          have r183 : RT τ173 := r169.call f175 (by decide) (by decide)
          have r184 : CA τ173 S I := r170.fr f175 (by decide) (by decide)
          have r185 : MA τ173 S I := r167.fr i161 f175 (by decide) (by decide)
          clear h179 z168
          show MW p l e _ s m _ below meth c _ 4 G (250 + 8 * y3.toInt.toNat) (5300 + 24 * y3.toInt.toNat) 336 [some (.ref b), some (.ref (G.1 0 0)), some (.ref (G.1 22 0)), some (.int y3)] [.int x176] τ173
          refine m_pop C dL_law_336 rfl ?_
          refine m_goto (tgt := 1028) C dL_law_337 (by decide) ?_
          obtain ⟨x186, ex186⟩ : ∃ y : Int32, y = y3 + 6 := ⟨_, rfl⟩
          have tx186 : x186.toInt = y3.toInt + 6 := by rw [ex186, ti_addv b8 kc_6 (by decide), kt_6]
          have b187 : IV x186 6 3072 := by rw [ex186]; exact iv_add b8 kc_6 (by decide)
          refine m_iinc (v := x186) (L1 := [some (.ref b), some (.ref (G.1 0 0)), some (.ref (G.1 22 0)), some (.int x186)]) C dL_law_1028 rfl (by rw [ex186]; rfl) (by decide) rfl rfl ?_
          refine m_goto (tgt := 18) C dL_law_1031 (by decide) ?_
          refine m_widen (c2 := 250 + 8 * x186.toInt.toNat) (s2 := 5300 + 24 * x186.toInt.toNat) (by omega) (by omega) ?_
          exact ih18 τ173 x186 S I i174 r181 r183 r184 r185 (iv_wk b187 (by decide)) (by have q := hm18; omega)
        by_cases s188 : x11.toInt = 4
        · refine m_tableIn (tgt := 340) (off := 307) C dL_law_33 (by omega) (by omega) (by rw [s188]; rfl) (by decide) ?_
          have b189 : IV x11 4 4 := ⟨by omega, by omega⟩
          refine m_aload_n C dL_law_340 rfl rfl ?_
          refine m_aload_n C dL_law_341 rfl rfl ?_
          refine m_iload_n C dL_law_342 rfl rfl ?_
          refine m_iconst (v := 1) C dL_law_343 (by decide) ?_
          refine m_iadd C dL_law_344 ?_
          refine m_topi (fun x190 ex190 => ?_)
          have tx190 : x190.toInt = y3.toInt + 1 := by rw [ex190, ti_addv b8 kc_1 (by decide), kt_1]
          have b191 : IV x190 1 3067 := by rw [ex190]; exact iv_add b8 kc_1 (by decide)
          refine m_sld C hX hbl hbA ⟨by omega, by omega⟩ dL_law_345 ?_
          refine m_topi (fun x192 ex192 => ?_)
          refine m_i2l C dL_law_346 ?_
          refine m_bipush (v := 32) C dL_law_347 (by decide) ?_
          refine m_lshl C dL_law_349 ?_
          refine m_topl (fun w193 ew193 => ?_)
          refine m_aload_n C dL_law_350 rfl rfl ?_
          refine m_iload_n C dL_law_351 rfl rfl ?_
          refine m_iconst (v := 2) C dL_law_352 (by decide) ?_
          refine m_iadd C dL_law_353 ?_
          refine m_topi (fun x194 ex194 => ?_)
          have tx194 : x194.toInt = y3.toInt + 2 := by rw [ex194, ti_addv b8 kc_2 (by decide), kt_2]
          have b195 : IV x194 2 3068 := by rw [ex194]; exact iv_add b8 kc_2 (by decide)
          refine m_sld C hX hbl hbA ⟨by omega, by omega⟩ dL_law_354 ?_
          refine m_topi (fun x196 ex196 => ?_)
          refine m_i2l C dL_law_355 ?_
          refine m_ldc2 (v := 4294967295) C dL_law_356 q5_222 ?_
          refine m_land C dL_law_359 ?_
          refine m_topl (fun w197 ew197 => ?_)
          refine m_lor C dL_law_360 ?_
          refine m_topl (fun w198 ew198 => ?_)
          refine m_aload_n C dL_law_361 rfl rfl ?_
          refine m_iload_n C dL_law_362 rfl rfl ?_
          refine m_iconst (v := 3) C dL_law_363 (by decide) ?_
          refine m_iadd C dL_law_364 ?_
          refine m_topi (fun x199 ex199 => ?_)
          have tx199 : x199.toInt = y3.toInt + 3 := by rw [ex199, ti_addv b8 kc_3 (by decide), kt_3]
          have b200 : IV x199 3 3069 := by rw [ex199]; exact iv_add b8 kc_3 (by decide)
          refine m_sld C hX hbl hbA ⟨by omega, by omega⟩ dL_law_365 ?_
          refine m_topi (fun x201 ex201 => ?_)
          refine m_callV (n := 2) (ci := 10) (st := []) C (c_X11_feedT l G τ (w198) (x201) iτ ) (by decide) (by decide) rfl rfl rfl q2_42 q2_39 q2_40 q2_41 q1_1 (by decide +kernel) rfl (by decide) ⟨by show (250 + 8 * y3.toInt.toNat) + 0 ≤ 600000; omega, by show (5300 + 24 * y3.toInt.toNat) + 0 ≤ 7302250; omega⟩ rfl (Nat.le_of_ble_eq_true rfl) dL_law_366 ?_
          rintro _ τ202 ⟨x205, rfl, i203, f204, b206, h208⟩
          have r209 : MA τ202 S I := mτ.fr iτ f204 (by decide) (by decide)
          have z210 := Hid.mk h208
          clear h208
          have r211 : CA τ202 S I := cτ.fr f204 (by decide) (by decide)
          show MW p l e _ s m _ below meth c _ 4 G (250 + 8 * y3.toInt.toNat) (5300 + 24 * y3.toInt.toNat) 369 [some (.ref b), some (.ref (G.1 0 0)), some (.ref (G.1 22 0)), some (.int y3)] [.int x205] τ202
          refine m_pop C dL_law_369 rfl ?_
          refine m_aload_n C dL_law_370 rfl rfl ?_
          refine m_aload_n C dL_law_371 rfl rfl ?_
          refine m_iload_n C dL_law_372 rfl rfl ?_
          refine m_iconst (v := 1) C dL_law_373 (by decide) ?_
          refine m_iadd C dL_law_374 ?_
          refine m_topi (fun x212 ex212 => ?_)
          have tx212 : x212.toInt = y3.toInt + 1 := by rw [ex212, ti_addv b8 kc_1 (by decide), kt_1]
          have b213 : IV x212 1 3067 := by rw [ex212]; exact iv_add b8 kc_1 (by decide)
          refine m_sld C hX hbl hbA ⟨by omega, by omega⟩ dL_law_375 ?_
          refine m_eqs (w := x192) (by rw [ex192, show x212.toInt.toNat = x190.toInt.toNat by omega]) ?_
          refine m_i2l C dL_law_376 ?_
          refine m_bipush (v := 32) C dL_law_377 (by decide) ?_
          refine m_lshl C dL_law_379 ?_
          refine m_topl (fun w214 ew214 => ?_)
          refine m_aload_n C dL_law_380 rfl rfl ?_
          refine m_iload_n C dL_law_381 rfl rfl ?_
          refine m_iconst (v := 2) C dL_law_382 (by decide) ?_
          refine m_iadd C dL_law_383 ?_
          refine m_topi (fun x215 ex215 => ?_)
          have tx215 : x215.toInt = y3.toInt + 2 := by rw [ex215, ti_addv b8 kc_2 (by decide), kt_2]
          have b216 : IV x215 2 3068 := by rw [ex215]; exact iv_add b8 kc_2 (by decide)
          refine m_sld C hX hbl hbA ⟨by omega, by omega⟩ dL_law_384 ?_
          refine m_eqs (w := x196) (by rw [ex196, show x215.toInt.toNat = x194.toInt.toNat by omega]) ?_
          refine m_i2l C dL_law_385 ?_
          refine m_ldc2 (v := 4294967295) C dL_law_386 q5_222 ?_
          refine m_land C dL_law_389 ?_
          refine m_topl (fun w217 ew217 => ?_)
          refine m_lor C dL_law_390 ?_
          refine m_topl (fun w218 ew218 => ?_)
          refine m_aload_n C dL_law_391 rfl rfl ?_
          refine m_iload_n C dL_law_392 rfl rfl ?_
          refine m_iconst (v := 3) C dL_law_393 (by decide) ?_
          refine m_iadd C dL_law_394 ?_
          refine m_topi (fun x219 ex219 => ?_)
          have tx219 : x219.toInt = y3.toInt + 3 := by rw [ex219, ti_addv b8 kc_3 (by decide), kt_3]
          have b220 : IV x219 3 3069 := by rw [ex219]; exact iv_add b8 kc_3 (by decide)
          refine m_sld C hX hbl hbA ⟨by omega, by omega⟩ dL_law_395 ?_
          refine m_eqs (w := x201) (by rw [ex201, show x219.toInt.toNat = x199.toInt.toNat by omega]) ?_
          have q221 : w218 = w198 := by rw [ew218, ew214, ew217, ew198, ew193, ew197]
          refine m_callV (n := 2) (ci := 11) (st := []) C (c_X12_feedT l G τ202 (w218) (x201) i203 ) (by decide) (by decide) rfl rfl rfl q4_220 q4_217 q4_218 q4_219 q1_7 (by decide +kernel) rfl (by decide) ⟨by show (250 + 8 * y3.toInt.toNat) + 0 ≤ 600000; omega, by show (5300 + 24 * y3.toInt.toNat) + 0 ≤ 7302250; omega⟩ rfl (Nat.le_of_ble_eq_true rfl) dL_law_396 ?_
          rintro _ τ222 ⟨x225, rfl, i223, f224, b226, h228⟩
          rw [q221] at h228
          have g229 := RT.feedB rτ tτ f204 f224 z210 h228
          have r230 : Rel τ222 := g229.1
          have r231 : RT τ222 := g229.2.1
          have q232 := g229.2.2
          have r233 : CA τ222 S I := r211.fr f224 (by decide) (by decide)
          have r234 : MA τ222 S I := r209.fr i203 f224 (by decide) (by decide)
          clear h228 z210
          show MW p l e _ s m _ below meth c _ 4 G (250 + 8 * y3.toInt.toNat) (5300 + 24 * y3.toInt.toNat) 399 [some (.ref b), some (.ref (G.1 0 0)), some (.ref (G.1 22 0)), some (.int y3)] [.int x225] τ222
          refine m_pop C dL_law_399 rfl ?_
          refine m_goto (tgt := 1028) C dL_law_400 (by decide) ?_
          obtain ⟨x235, ex235⟩ : ∃ y : Int32, y = y3 + 6 := ⟨_, rfl⟩
          have tx235 : x235.toInt = y3.toInt + 6 := by rw [ex235, ti_addv b8 kc_6 (by decide), kt_6]
          have b236 : IV x235 6 3072 := by rw [ex235]; exact iv_add b8 kc_6 (by decide)
          refine m_iinc (v := x235) (L1 := [some (.ref b), some (.ref (G.1 0 0)), some (.ref (G.1 22 0)), some (.int x235)]) C dL_law_1028 rfl (by rw [ex235]; rfl) (by decide) rfl rfl ?_
          refine m_goto (tgt := 18) C dL_law_1031 (by decide) ?_
          refine m_widen (c2 := 250 + 8 * x235.toInt.toNat) (s2 := 5300 + 24 * x235.toInt.toNat) (by omega) (by omega) ?_
          exact ih18 τ222 x235 S I i223 r230 r231 r233 r234 (iv_wk b236 (by decide)) (by have q := hm18; omega)
        by_cases s237 : x11.toInt = 5
        · refine m_tableIn (tgt := 403) (off := 370) C dL_law_33 (by omega) (by omega) (by rw [s237]; rfl) (by decide) ?_
          have b238 : IV x11 5 5 := ⟨by omega, by omega⟩
          refine m_aload_n C dL_law_403 rfl rfl ?_
          obtain ⟨⟨T, N, hTC, hTM⟩, hTL⟩ := id tτ
          refine m_callV (n := 0) (ci := 10) (st := []) C (c_X11_towerS l G τ T N S I  iτ hTC cτ) (by decide) (by decide) rfl rfl rfl q2_51 q2_48 q2_49 q2_50 q1_1 (by decide +kernel) rfl (by decide) ⟨by show (250 + 8 * y3.toInt.toNat) + 8 ≤ 600000; omega, by show (5300 + 24 * y3.toInt.toNat) + 24 ≤ 7302250; omega⟩ rfl (Nat.le_of_ble_eq_true rfl) dL_law_404 ?_
          rintro _ τ239 ⟨x242, rfl, i240, f241, b243, h245⟩
          obtain ⟨h245, h245t0, h245t1⟩ := h245
          have r246 : MA τ239 S I := mτ.fr iτ f241 (by decide) (by decide)
          have z247 := Hid.mk h245
          clear h245
          show MW p l e _ s m _ below meth c _ 4 G ((250 + 8 * y3.toInt.toNat) + 8) ((5300 + 24 * y3.toInt.toNat) + 24) 407 [some (.ref b), some (.ref (G.1 0 0)), some (.ref (G.1 22 0)), some (.int y3)] [.int x242] τ239
          refine m_pop C dL_law_407 rfl ?_
          refine m_aload_n C dL_law_408 rfl rfl ?_
          have hTM2 := hTM.fr f241 (by decide) (by decide) (by simp) (by decide)
          refine m_callV (n := 0) (ci := 11) (st := []) C (c_X12_towerS l G τ239 T N S I  i240 hTM2 r246) (by decide) (by decide) rfl rfl rfl q4_227 q4_224 q4_225 q4_226 q1_7 (by decide +kernel) rfl (by decide) ⟨by show ((250 + 8 * y3.toInt.toNat) + 8) + 0 ≤ 600000; omega, by show ((5300 + 24 * y3.toInt.toNat) + 24) + 0 ≤ 7302250; omega⟩ rfl (Nat.le_of_ble_eq_true rfl) dL_law_409 ?_
          rintro _ τ248 ⟨x251, rfl, i249, f250, b252, h254⟩
          obtain ⟨h254, h254t0, h254t1⟩ := h254
          have g255 := RT.towerB rτ tτ f241 f250 z247 h254
          have r256 : Rel τ248 := g255.1
          have r257 : RT τ248 := g255.2.1
          have q258 := g255.2.2
          obtain ⟨S259, h260, h261⟩ : ∃ S5, CA τ248 S5 I ∧ MA τ248 S5 I := by
            by_cases gF : outF T N = 0
            · exact ⟨_, (h245t1 gF).fr f250 (by decide) (by decide), h254t1 gF⟩
            · exact ⟨_, (h245t0 gF).fr f250 (by decide) (by decide), h254t0 gF⟩
          clear h245t0 h245t1 h254t0 h254t1
          clear h254 z247
          show MW p l e _ s m _ below meth c _ 4 G ((250 + 8 * y3.toInt.toNat) + 8) ((5300 + 24 * y3.toInt.toNat) + 24) 412 [some (.ref b), some (.ref (G.1 0 0)), some (.ref (G.1 22 0)), some (.int y3)] [.int x251] τ248
          refine m_pop C dL_law_412 rfl ?_
          refine m_goto (tgt := 1028) C dL_law_413 (by decide) ?_
          obtain ⟨x262, ex262⟩ : ∃ y : Int32, y = y3 + 6 := ⟨_, rfl⟩
          have tx262 : x262.toInt = y3.toInt + 6 := by rw [ex262, ti_addv b8 kc_6 (by decide), kt_6]
          have b263 : IV x262 6 3072 := by rw [ex262]; exact iv_add b8 kc_6 (by decide)
          refine m_iinc (v := x262) (L1 := [some (.ref b), some (.ref (G.1 0 0)), some (.ref (G.1 22 0)), some (.int x262)]) C dL_law_1028 rfl (by rw [ex262]; rfl) (by decide) rfl rfl ?_
          refine m_goto (tgt := 18) C dL_law_1031 (by decide) ?_
          refine m_widen (c2 := 250 + 8 * x262.toInt.toNat) (s2 := 5300 + 24 * x262.toInt.toNat) (by omega) (by omega) ?_
          exact ih18 τ248 x262 S259 I i249 r256 r257 h260 h261 (iv_wk b263 (by decide)) (by have q := hm18; omega)
        by_cases s264 : x11.toInt = 6
        · refine m_tableIn (tgt := 416) (off := 383) C dL_law_33 (by omega) (by omega) (by rw [s264]; rfl) (by decide) ?_
          have b265 : IV x11 6 6 := ⟨by omega, by omega⟩
          refine m_aload_n C dL_law_416 rfl rfl ?_
          refine m_callV (n := 0) (ci := 10) (st := []) C (c_X11_faultT l G τ  iτ ) (by decide) (by decide) rfl rfl rfl q3_13 q3_10 q3_11 q3_12 q1_1 (by decide +kernel) rfl (by decide) ⟨by show (250 + 8 * y3.toInt.toNat) + 0 ≤ 600000; omega, by show (5300 + 24 * y3.toInt.toNat) + 0 ≤ 7302250; omega⟩ rfl (Nat.le_of_ble_eq_true rfl) dL_law_417 ?_
          rintro _ τ266 ⟨x269, rfl, i267, f268, b270, h272⟩
          have r273 : MA τ266 S I := mτ.fr iτ f268 (by decide) (by decide)
          have z274 := Hid.mk h272
          clear h272
          have r275 : Rel τ266 := rτ.call f268 (by decide) (by decide)
          have r276 : RT τ266 := tτ.call f268 (by decide) (by decide)
          have r277 : CA τ266 S I := cτ.fr f268 (by decide) (by decide)
          show MW p l e _ s m _ below meth c _ 4 G (250 + 8 * y3.toInt.toNat) (5300 + 24 * y3.toInt.toNat) 420 [some (.ref b), some (.ref (G.1 0 0)), some (.ref (G.1 22 0)), some (.int y3)] [.int x269] τ266
          refine m_pop C dL_law_420 rfl ?_
          refine m_aload_n C dL_law_421 rfl rfl ?_
          refine m_callV (n := 0) (ci := 11) (st := []) C (c_X12_faultT l G τ266  i267 ) (by decide) (by decide) rfl rfl rfl q5_42 q5_39 q5_40 q5_41 q1_7 (by decide +kernel) rfl (by decide) ⟨by show (250 + 8 * y3.toInt.toNat) + 0 ≤ 600000; omega, by show (5300 + 24 * y3.toInt.toNat) + 0 ≤ 7302250; omega⟩ rfl (Nat.le_of_ble_eq_true rfl) dL_law_422 ?_
          rintro _ τ278 ⟨x281, rfl, i279, f280, b282, h284⟩
          have g285 := RT.faultB tτ f268 z274 h284
          have r286 : Rel τ278 := r275.call f280 (by decide) (by decide)
          have r287 : RT τ278 := r276.call f280 (by decide) (by decide)
          have r288 : CA τ278 S I := r277.fr f280 (by decide) (by decide)
          have r289 : MA τ278 S I := r273.fr i267 f280 (by decide) (by decide)
          clear h284 z274
          show MW p l e _ s m _ below meth c _ 4 G (250 + 8 * y3.toInt.toNat) (5300 + 24 * y3.toInt.toNat) 425 [some (.ref b), some (.ref (G.1 0 0)), some (.ref (G.1 22 0)), some (.int y3)] [.int x281] τ278
          refine m_pop C dL_law_425 rfl ?_
          refine m_goto (tgt := 1028) C dL_law_426 (by decide) ?_
          obtain ⟨x290, ex290⟩ : ∃ y : Int32, y = y3 + 6 := ⟨_, rfl⟩
          have tx290 : x290.toInt = y3.toInt + 6 := by rw [ex290, ti_addv b8 kc_6 (by decide), kt_6]
          have b291 : IV x290 6 3072 := by rw [ex290]; exact iv_add b8 kc_6 (by decide)
          refine m_iinc (v := x290) (L1 := [some (.ref b), some (.ref (G.1 0 0)), some (.ref (G.1 22 0)), some (.int x290)]) C dL_law_1028 rfl (by rw [ex290]; rfl) (by decide) rfl rfl ?_
          refine m_goto (tgt := 18) C dL_law_1031 (by decide) ?_
          refine m_widen (c2 := 250 + 8 * x290.toInt.toNat) (s2 := 5300 + 24 * x290.toInt.toNat) (by omega) (by omega) ?_
          exact ih18 τ278 x290 S I i279 r286 r287 r288 r289 (iv_wk b291 (by decide)) (by have q := hm18; omega)
        by_cases s292 : x11.toInt = 7
        · refine m_tableIn (tgt := 429) (off := 396) C dL_law_33 (by omega) (by omega) (by rw [s292]; rfl) (by decide) ?_
          have b293 : IV x11 7 7 := ⟨by omega, by omega⟩
          refine m_aload_n C dL_law_429 rfl rfl ?_
          refine m_aload_n C dL_law_430 rfl rfl ?_
          refine m_iload_n C dL_law_431 rfl rfl ?_
          refine m_iconst (v := 1) C dL_law_432 (by decide) ?_
          refine m_iadd C dL_law_433 ?_
          refine m_topi (fun x294 ex294 => ?_)
          have tx294 : x294.toInt = y3.toInt + 1 := by rw [ex294, ti_addv b8 kc_1 (by decide), kt_1]
          have b295 : IV x294 1 3067 := by rw [ex294]; exact iv_add b8 kc_1 (by decide)
          refine m_sld C hX hbl hbA ⟨by omega, by omega⟩ dL_law_434 ?_
          refine m_topi (fun x296 ex296 => ?_)
          refine m_aload_n C dL_law_435 rfl rfl ?_
          refine m_iload_n C dL_law_436 rfl rfl ?_
          refine m_iconst (v := 2) C dL_law_437 (by decide) ?_
          refine m_iadd C dL_law_438 ?_
          refine m_topi (fun x297 ex297 => ?_)
          have tx297 : x297.toInt = y3.toInt + 2 := by rw [ex297, ti_addv b8 kc_2 (by decide), kt_2]
          have b298 : IV x297 2 3068 := by rw [ex297]; exact iv_add b8 kc_2 (by decide)
          refine m_sld C hX hbl hbA ⟨by omega, by omega⟩ dL_law_439 ?_
          refine m_topi (fun x299 ex299 => ?_)
          refine m_callV (n := 2) (ci := 10) (st := []) C (c_X11_goS l G τ S I (x296) (x299) iτ cτ) (by decide) (by decide) rfl rfl rfl q3_17 q3_14 q3_15 q3_16 q1_1 (by decide +kernel) rfl (by decide) ⟨by show (250 + 8 * y3.toInt.toNat) + 0 ≤ 600000; omega, by show (5300 + 24 * y3.toInt.toNat) + 0 ≤ 7302250; omega⟩ rfl (Nat.le_of_ble_eq_true rfl) dL_law_440 ?_
          rintro _ τ300 ⟨x303, rfl, i301, f302, b304, h306⟩
          have r307 : MA τ300 S I := mτ.fr iτ f302 (by decide) (by decide)
          have r308 : Rel τ300 := rτ.call f302 (by decide) (by decide)
          have r309 : RT τ300 := tτ.call f302 (by decide) (by decide)
          have r310 : CA τ300 S I := h306
          show MW p l e _ s m _ below meth c _ 4 G (250 + 8 * y3.toInt.toNat) (5300 + 24 * y3.toInt.toNat) 443 [some (.ref b), some (.ref (G.1 0 0)), some (.ref (G.1 22 0)), some (.int y3)] [.int x303] τ300
          refine m_pop C dL_law_443 rfl ?_
          refine m_aload_n C dL_law_444 rfl rfl ?_
          refine m_aload_n C dL_law_445 rfl rfl ?_
          refine m_iload_n C dL_law_446 rfl rfl ?_
          refine m_iconst (v := 1) C dL_law_447 (by decide) ?_
          refine m_iadd C dL_law_448 ?_
          refine m_topi (fun x311 ex311 => ?_)
          have tx311 : x311.toInt = y3.toInt + 1 := by rw [ex311, ti_addv b8 kc_1 (by decide), kt_1]
          have b312 : IV x311 1 3067 := by rw [ex311]; exact iv_add b8 kc_1 (by decide)
          refine m_sld C hX hbl hbA ⟨by omega, by omega⟩ dL_law_449 ?_
          refine m_eqs (w := x296) (by rw [ex296, show x311.toInt.toNat = x294.toInt.toNat by omega]) ?_
          refine m_aload_n C dL_law_450 rfl rfl ?_
          refine m_iload_n C dL_law_451 rfl rfl ?_
          refine m_iconst (v := 2) C dL_law_452 (by decide) ?_
          refine m_iadd C dL_law_453 ?_
          refine m_topi (fun x313 ex313 => ?_)
          have tx313 : x313.toInt = y3.toInt + 2 := by rw [ex313, ti_addv b8 kc_2 (by decide), kt_2]
          have b314 : IV x313 2 3068 := by rw [ex313]; exact iv_add b8 kc_2 (by decide)
          refine m_sld C hX hbl hbA ⟨by omega, by omega⟩ dL_law_454 ?_
          refine m_eqs (w := x299) (by rw [ex299, show x313.toInt.toNat = x297.toInt.toNat by omega]) ?_
          refine m_callV (n := 2) (ci := 11) (st := []) C (c_X12_goS l G τ300 S I (x296) (x299) i301 r307) (by decide) (by decide) rfl rfl rfl q5_46 q5_43 q5_44 q5_45 q1_7 (by decide +kernel) rfl (by decide) ⟨by show (250 + 8 * y3.toInt.toNat) + 0 ≤ 600000; omega, by show (5300 + 24 * y3.toInt.toNat) + 0 ≤ 7302250; omega⟩ rfl (Nat.le_of_ble_eq_true rfl) dL_law_455 ?_
          rintro _ τ315 ⟨x318, rfl, i316, f317, b319, h321⟩
          have r322 : Rel τ315 := r308.call f317 (by decide) (by decide)
          have r323 : RT τ315 := r309.call f317 (by decide) (by decide)
          have r324 : CA τ315 S I := r310.fr f317 (by decide) (by decide)
          have r325 : MA τ315 S I := h321
          show MW p l e _ s m _ below meth c _ 4 G (250 + 8 * y3.toInt.toNat) (5300 + 24 * y3.toInt.toNat) 458 [some (.ref b), some (.ref (G.1 0 0)), some (.ref (G.1 22 0)), some (.int y3)] [.int x318] τ315
          refine m_pop C dL_law_458 rfl ?_
          refine m_goto (tgt := 1028) C dL_law_459 (by decide) ?_
          obtain ⟨x326, ex326⟩ : ∃ y : Int32, y = y3 + 6 := ⟨_, rfl⟩
          have tx326 : x326.toInt = y3.toInt + 6 := by rw [ex326, ti_addv b8 kc_6 (by decide), kt_6]
          have b327 : IV x326 6 3072 := by rw [ex326]; exact iv_add b8 kc_6 (by decide)
          refine m_iinc (v := x326) (L1 := [some (.ref b), some (.ref (G.1 0 0)), some (.ref (G.1 22 0)), some (.int x326)]) C dL_law_1028 rfl (by rw [ex326]; rfl) (by decide) rfl rfl ?_
          refine m_goto (tgt := 18) C dL_law_1031 (by decide) ?_
          refine m_widen (c2 := 250 + 8 * x326.toInt.toNat) (s2 := 5300 + 24 * x326.toInt.toNat) (by omega) (by omega) ?_
          exact ih18 τ315 x326 S I i316 r322 r323 r324 r325 (iv_wk b327 (by decide)) (by have q := hm18; omega)
        by_cases s328 : x11.toInt = 8
        · refine m_tableIn (tgt := 462) (off := 429) C dL_law_33 (by omega) (by omega) (by rw [s328]; rfl) (by decide) ?_
          have b329 : IV x11 8 8 := ⟨by omega, by omega⟩
          refine m_aload_n C dL_law_462 rfl rfl ?_
          refine m_aload_n C dL_law_463 rfl rfl ?_
          refine m_iload_n C dL_law_464 rfl rfl ?_
          refine m_iconst (v := 1) C dL_law_465 (by decide) ?_
          refine m_iadd C dL_law_466 ?_
          refine m_topi (fun x330 ex330 => ?_)
          have tx330 : x330.toInt = y3.toInt + 1 := by rw [ex330, ti_addv b8 kc_1 (by decide), kt_1]
          have b331 : IV x330 1 3067 := by rw [ex330]; exact iv_add b8 kc_1 (by decide)
          refine m_sld C hX hbl hbA ⟨by omega, by omega⟩ dL_law_467 ?_
          refine m_topi (fun x332 ex332 => ?_)
          refine m_aload_n C dL_law_468 rfl rfl ?_
          refine m_iload_n C dL_law_469 rfl rfl ?_
          refine m_iconst (v := 2) C dL_law_470 (by decide) ?_
          refine m_iadd C dL_law_471 ?_
          refine m_topi (fun x333 ex333 => ?_)
          have tx333 : x333.toInt = y3.toInt + 2 := by rw [ex333, ti_addv b8 kc_2 (by decide), kt_2]
          have b334 : IV x333 2 3068 := by rw [ex333]; exact iv_add b8 kc_2 (by decide)
          refine m_sld C hX hbl hbA ⟨by omega, by omega⟩ dL_law_472 ?_
          refine m_topi (fun x335 ex335 => ?_)
          refine m_callV (n := 2) (ci := 10) (st := []) C (c_X11_hangS l G τ S I (x332) (x335) iτ cτ) (by decide) (by decide) rfl rfl rfl q3_29 q3_26 q3_27 q3_28 q1_1 (by decide +kernel) rfl (by decide) ⟨by show (250 + 8 * y3.toInt.toNat) + 0 ≤ 600000; omega, by show (5300 + 24 * y3.toInt.toNat) + 0 ≤ 7302250; omega⟩ rfl (Nat.le_of_ble_eq_true rfl) dL_law_473 ?_
          rintro _ τ336 ⟨x339, rfl, i337, f338, b340, h342⟩
          have r343 : MA τ336 S I := mτ.fr iτ f338 (by decide) (by decide)
          have r344 : Rel τ336 := rτ.call f338 (by decide) (by decide)
          have r345 : RT τ336 := tτ.call f338 (by decide) (by decide)
          have r346 : CA τ336 S I := h342
          show MW p l e _ s m _ below meth c _ 4 G (250 + 8 * y3.toInt.toNat) (5300 + 24 * y3.toInt.toNat) 476 [some (.ref b), some (.ref (G.1 0 0)), some (.ref (G.1 22 0)), some (.int y3)] [.int x339] τ336
          refine m_pop C dL_law_476 rfl ?_
          refine m_aload_n C dL_law_477 rfl rfl ?_
          refine m_aload_n C dL_law_478 rfl rfl ?_
          refine m_iload_n C dL_law_479 rfl rfl ?_
          refine m_iconst (v := 1) C dL_law_480 (by decide) ?_
          refine m_iadd C dL_law_481 ?_
          refine m_topi (fun x347 ex347 => ?_)
          have tx347 : x347.toInt = y3.toInt + 1 := by rw [ex347, ti_addv b8 kc_1 (by decide), kt_1]
          have b348 : IV x347 1 3067 := by rw [ex347]; exact iv_add b8 kc_1 (by decide)
          refine m_sld C hX hbl hbA ⟨by omega, by omega⟩ dL_law_482 ?_
          refine m_eqs (w := x332) (by rw [ex332, show x347.toInt.toNat = x330.toInt.toNat by omega]) ?_
          refine m_aload_n C dL_law_483 rfl rfl ?_
          refine m_iload_n C dL_law_484 rfl rfl ?_
          refine m_iconst (v := 2) C dL_law_485 (by decide) ?_
          refine m_iadd C dL_law_486 ?_
          refine m_topi (fun x349 ex349 => ?_)
          have tx349 : x349.toInt = y3.toInt + 2 := by rw [ex349, ti_addv b8 kc_2 (by decide), kt_2]
          have b350 : IV x349 2 3068 := by rw [ex349]; exact iv_add b8 kc_2 (by decide)
          refine m_sld C hX hbl hbA ⟨by omega, by omega⟩ dL_law_487 ?_
          refine m_eqs (w := x335) (by rw [ex335, show x349.toInt.toNat = x333.toInt.toNat by omega]) ?_
          refine m_callV (n := 2) (ci := 11) (st := []) C (c_X12_hangS l G τ336 S I (x332) (x335) i337 r343) (by decide) (by decide) rfl rfl rfl q5_58 q5_55 q5_56 q5_57 q1_7 (by decide +kernel) rfl (by decide) ⟨by show (250 + 8 * y3.toInt.toNat) + 0 ≤ 600000; omega, by show (5300 + 24 * y3.toInt.toNat) + 0 ≤ 7302250; omega⟩ rfl (Nat.le_of_ble_eq_true rfl) dL_law_488 ?_
          rintro _ τ351 ⟨x354, rfl, i352, f353, b355, h357⟩
          have r358 : Rel τ351 := r344.call f353 (by decide) (by decide)
          have r359 : RT τ351 := r345.call f353 (by decide) (by decide)
          have r360 : CA τ351 S I := r346.fr f353 (by decide) (by decide)
          have r361 : MA τ351 S I := h357
          show MW p l e _ s m _ below meth c _ 4 G (250 + 8 * y3.toInt.toNat) (5300 + 24 * y3.toInt.toNat) 491 [some (.ref b), some (.ref (G.1 0 0)), some (.ref (G.1 22 0)), some (.int y3)] [.int x354] τ351
          refine m_pop C dL_law_491 rfl ?_
          refine m_goto (tgt := 1028) C dL_law_492 (by decide) ?_
          obtain ⟨x362, ex362⟩ : ∃ y : Int32, y = y3 + 6 := ⟨_, rfl⟩
          have tx362 : x362.toInt = y3.toInt + 6 := by rw [ex362, ti_addv b8 kc_6 (by decide), kt_6]
          have b363 : IV x362 6 3072 := by rw [ex362]; exact iv_add b8 kc_6 (by decide)
          refine m_iinc (v := x362) (L1 := [some (.ref b), some (.ref (G.1 0 0)), some (.ref (G.1 22 0)), some (.int x362)]) C dL_law_1028 rfl (by rw [ex362]; rfl) (by decide) rfl rfl ?_
          refine m_goto (tgt := 18) C dL_law_1031 (by decide) ?_
          refine m_widen (c2 := 250 + 8 * x362.toInt.toNat) (s2 := 5300 + 24 * x362.toInt.toNat) (by omega) (by omega) ?_
          exact ih18 τ351 x362 S I i352 r358 r359 r360 r361 (iv_wk b363 (by decide)) (by have q := hm18; omega)
        by_cases s364 : x11.toInt = 9
        · refine m_tableIn (tgt := 495) (off := 462) C dL_law_33 (by omega) (by omega) (by rw [s364]; rfl) (by decide) ?_
          have b365 : IV x11 9 9 := ⟨by omega, by omega⟩
          refine m_aload_n C dL_law_495 rfl rfl ?_
          refine m_aload_n C dL_law_496 rfl rfl ?_
          refine m_iload_n C dL_law_497 rfl rfl ?_
          refine m_iconst (v := 1) C dL_law_498 (by decide) ?_
          refine m_iadd C dL_law_499 ?_
          refine m_topi (fun x366 ex366 => ?_)
          have tx366 : x366.toInt = y3.toInt + 1 := by rw [ex366, ti_addv b8 kc_1 (by decide), kt_1]
          have b367 : IV x366 1 3067 := by rw [ex366]; exact iv_add b8 kc_1 (by decide)
          refine m_sld C hX hbl hbA ⟨by omega, by omega⟩ dL_law_500 ?_
          refine m_topi (fun x368 ex368 => ?_)
          refine m_callV (n := 1) (ci := 10) (st := []) C (c_X11_halvesS l G τ S I (x368) iτ cτ) (by decide) (by decide) rfl rfl rfl q3_37 q3_34 q3_35 q3_36 q1_1 (by decide +kernel) rfl (by decide) ⟨by show (250 + 8 * y3.toInt.toNat) + 0 ≤ 600000; omega, by show (5300 + 24 * y3.toInt.toNat) + 0 ≤ 7302250; omega⟩ rfl (Nat.le_of_ble_eq_true rfl) dL_law_501 ?_
          rintro _ τ369 ⟨x372, rfl, i370, f371, b373, h375⟩
          have r376 : MA τ369 S I := mτ.fr iτ f371 (by decide) (by decide)
          have r377 : Rel τ369 := rτ.call f371 (by decide) (by decide)
          have r378 : RT τ369 := tτ.call f371 (by decide) (by decide)
          have r379 : CA τ369 S I := h375
          show MW p l e _ s m _ below meth c _ 4 G (250 + 8 * y3.toInt.toNat) (5300 + 24 * y3.toInt.toNat) 504 [some (.ref b), some (.ref (G.1 0 0)), some (.ref (G.1 22 0)), some (.int y3)] [.int x372] τ369
          refine m_pop C dL_law_504 rfl ?_
          refine m_aload_n C dL_law_505 rfl rfl ?_
          refine m_aload_n C dL_law_506 rfl rfl ?_
          refine m_iload_n C dL_law_507 rfl rfl ?_
          refine m_iconst (v := 1) C dL_law_508 (by decide) ?_
          refine m_iadd C dL_law_509 ?_
          refine m_topi (fun x380 ex380 => ?_)
          have tx380 : x380.toInt = y3.toInt + 1 := by rw [ex380, ti_addv b8 kc_1 (by decide), kt_1]
          have b381 : IV x380 1 3067 := by rw [ex380]; exact iv_add b8 kc_1 (by decide)
          refine m_sld C hX hbl hbA ⟨by omega, by omega⟩ dL_law_510 ?_
          refine m_eqs (w := x368) (by rw [ex368, show x380.toInt.toNat = x366.toInt.toNat by omega]) ?_
          refine m_callV (n := 1) (ci := 11) (st := []) C (c_X12_halvesS l G τ369 S I (x368) i370 r376) (by decide) (by decide) rfl rfl rfl q5_63 q5_60 q5_61 q5_62 q1_7 (by decide +kernel) rfl (by decide) ⟨by show (250 + 8 * y3.toInt.toNat) + 0 ≤ 600000; omega, by show (5300 + 24 * y3.toInt.toNat) + 0 ≤ 7302250; omega⟩ rfl (Nat.le_of_ble_eq_true rfl) dL_law_511 ?_
          rintro _ τ382 ⟨x385, rfl, i383, f384, b386, h388⟩
          have r389 : Rel τ382 := r377.call f384 (by decide) (by decide)
          have r390 : RT τ382 := r378.call f384 (by decide) (by decide)
          have r391 : CA τ382 S I := r379.fr f384 (by decide) (by decide)
          have r392 : MA τ382 S I := h388
          show MW p l e _ s m _ below meth c _ 4 G (250 + 8 * y3.toInt.toNat) (5300 + 24 * y3.toInt.toNat) 514 [some (.ref b), some (.ref (G.1 0 0)), some (.ref (G.1 22 0)), some (.int y3)] [.int x385] τ382
          refine m_pop C dL_law_514 rfl ?_
          refine m_goto (tgt := 1028) C dL_law_515 (by decide) ?_
          obtain ⟨x393, ex393⟩ : ∃ y : Int32, y = y3 + 6 := ⟨_, rfl⟩
          have tx393 : x393.toInt = y3.toInt + 6 := by rw [ex393, ti_addv b8 kc_6 (by decide), kt_6]
          have b394 : IV x393 6 3072 := by rw [ex393]; exact iv_add b8 kc_6 (by decide)
          refine m_iinc (v := x393) (L1 := [some (.ref b), some (.ref (G.1 0 0)), some (.ref (G.1 22 0)), some (.int x393)]) C dL_law_1028 rfl (by rw [ex393]; rfl) (by decide) rfl rfl ?_
          refine m_goto (tgt := 18) C dL_law_1031 (by decide) ?_
          refine m_widen (c2 := 250 + 8 * x393.toInt.toNat) (s2 := 5300 + 24 * x393.toInt.toNat) (by omega) (by omega) ?_
          exact ih18 τ382 x393 S I i383 r389 r390 r391 r392 (iv_wk b394 (by decide)) (by have q := hm18; omega)
        by_cases s395 : x11.toInt = 10
        · refine m_tableIn (tgt := 518) (off := 485) C dL_law_33 (by omega) (by omega) (by rw [s395]; rfl) (by decide) ?_
          have b396 : IV x11 10 10 := ⟨by omega, by omega⟩
          refine m_aload_n C dL_law_518 rfl rfl ?_
          refine m_callV (n := 0) (ci := 10) (st := []) C (c_X11_yearS l G τ S I  iτ cτ) (by decide) (by decide) rfl rfl rfl q3_97 q3_94 q3_95 q3_96 q1_1 (by decide +kernel) rfl (by decide) ⟨by show (250 + 8 * y3.toInt.toNat) + 0 ≤ 600000; omega, by show (5300 + 24 * y3.toInt.toNat) + 0 ≤ 7302250; omega⟩ rfl (Nat.le_of_ble_eq_true rfl) dL_law_519 ?_
          rintro _ τ397 ⟨x400, rfl, i398, f399, b401, h403⟩
          have r404 : MA τ397 S I := mτ.fr iτ f399 (by decide) (by decide)
          have r405 : Rel τ397 := rτ.call f399 (by decide) (by decide)
          have r406 : RT τ397 := tτ.call f399 (by decide) (by decide)
          have r407 : CA τ397 S I := h403
          show MW p l e _ s m _ below meth c _ 4 G (250 + 8 * y3.toInt.toNat) (5300 + 24 * y3.toInt.toNat) 522 [some (.ref b), some (.ref (G.1 0 0)), some (.ref (G.1 22 0)), some (.int y3)] [.int x400] τ397
          refine m_pop C dL_law_522 rfl ?_
          refine m_aload_n C dL_law_523 rfl rfl ?_
          refine m_callV (n := 0) (ci := 11) (st := []) C (c_X12_yearS l G τ397 S I  i398 r404) (by decide) (by decide) rfl rfl rfl q5_103 q5_100 q5_101 q5_102 q1_7 (by decide +kernel) rfl (by decide) ⟨by show (250 + 8 * y3.toInt.toNat) + 0 ≤ 600000; omega, by show (5300 + 24 * y3.toInt.toNat) + 0 ≤ 7302250; omega⟩ rfl (Nat.le_of_ble_eq_true rfl) dL_law_524 ?_
          rintro _ τ408 ⟨x411, rfl, i409, f410, b412, h414⟩
          have r415 : Rel τ408 := r405.call f410 (by decide) (by decide)
          have r416 : RT τ408 := r406.call f410 (by decide) (by decide)
          have r417 : CA τ408 S I := r407.fr f410 (by decide) (by decide)
          have r418 : MA τ408 S I := h414
          show MW p l e _ s m _ below meth c _ 4 G (250 + 8 * y3.toInt.toNat) (5300 + 24 * y3.toInt.toNat) 527 [some (.ref b), some (.ref (G.1 0 0)), some (.ref (G.1 22 0)), some (.int y3)] [.int x411] τ408
          refine m_pop C dL_law_527 rfl ?_
          refine m_goto (tgt := 1028) C dL_law_528 (by decide) ?_
          obtain ⟨x419, ex419⟩ : ∃ y : Int32, y = y3 + 6 := ⟨_, rfl⟩
          have tx419 : x419.toInt = y3.toInt + 6 := by rw [ex419, ti_addv b8 kc_6 (by decide), kt_6]
          have b420 : IV x419 6 3072 := by rw [ex419]; exact iv_add b8 kc_6 (by decide)
          refine m_iinc (v := x419) (L1 := [some (.ref b), some (.ref (G.1 0 0)), some (.ref (G.1 22 0)), some (.int x419)]) C dL_law_1028 rfl (by rw [ex419]; rfl) (by decide) rfl rfl ?_
          refine m_goto (tgt := 18) C dL_law_1031 (by decide) ?_
          refine m_widen (c2 := 250 + 8 * x419.toInt.toNat) (s2 := 5300 + 24 * x419.toInt.toNat) (by omega) (by omega) ?_
          exact ih18 τ408 x419 S I i409 r415 r416 r417 r418 (iv_wk b420 (by decide)) (by have q := hm18; omega)
        by_cases s421 : x11.toInt = 11
        · refine m_tableIn (tgt := 531) (off := 498) C dL_law_33 (by omega) (by omega) (by rw [s421]; rfl) (by decide) ?_
          have b422 : IV x11 11 11 := ⟨by omega, by omega⟩
          refine m_aload_n C dL_law_531 rfl rfl ?_
          refine m_callV (n := 0) (ci := 10) (st := []) C (c_X11_undoS l G τ S I  iτ cτ) (by decide) (by decide) rfl rfl rfl q3_106 q3_103 q3_104 q3_105 q1_1 (by decide +kernel) rfl (by decide) ⟨by show (250 + 8 * y3.toInt.toNat) + 0 ≤ 600000; omega, by show (5300 + 24 * y3.toInt.toNat) + 0 ≤ 7302250; omega⟩ rfl (Nat.le_of_ble_eq_true rfl) dL_law_532 ?_
          rintro _ τ423 ⟨x426, rfl, i424, f425, b427, h429⟩
          have r430 : MA τ423 S I := mτ.fr iτ f425 (by decide) (by decide)
          have r431 : Rel τ423 := rτ.call f425 (by decide) (by decide)
          have r432 : RT τ423 := tτ.call f425 (by decide) (by decide)
          have r433 : CA τ423 S I := h429
          show MW p l e _ s m _ below meth c _ 4 G (250 + 8 * y3.toInt.toNat) (5300 + 24 * y3.toInt.toNat) 535 [some (.ref b), some (.ref (G.1 0 0)), some (.ref (G.1 22 0)), some (.int y3)] [.int x426] τ423
          refine m_pop C dL_law_535 rfl ?_
          refine m_aload_n C dL_law_536 rfl rfl ?_
          refine m_callV (n := 0) (ci := 11) (st := []) C (c_X12_undoS l G τ423 S I  i424 r430) (by decide) (by decide) rfl rfl rfl q5_111 q5_108 q5_109 q5_110 q1_7 (by decide +kernel) rfl (by decide) ⟨by show (250 + 8 * y3.toInt.toNat) + 0 ≤ 600000; omega, by show (5300 + 24 * y3.toInt.toNat) + 0 ≤ 7302250; omega⟩ rfl (Nat.le_of_ble_eq_true rfl) dL_law_537 ?_
          rintro _ τ434 ⟨x437, rfl, i435, f436, b438, h440⟩
          have r441 : Rel τ434 := r431.call f436 (by decide) (by decide)
          have r442 : RT τ434 := r432.call f436 (by decide) (by decide)
          have r443 : CA τ434 S I := r433.fr f436 (by decide) (by decide)
          have r444 : MA τ434 S I := h440
          show MW p l e _ s m _ below meth c _ 4 G (250 + 8 * y3.toInt.toNat) (5300 + 24 * y3.toInt.toNat) 540 [some (.ref b), some (.ref (G.1 0 0)), some (.ref (G.1 22 0)), some (.int y3)] [.int x437] τ434
          refine m_pop C dL_law_540 rfl ?_
          refine m_goto (tgt := 1028) C dL_law_541 (by decide) ?_
          obtain ⟨x445, ex445⟩ : ∃ y : Int32, y = y3 + 6 := ⟨_, rfl⟩
          have tx445 : x445.toInt = y3.toInt + 6 := by rw [ex445, ti_addv b8 kc_6 (by decide), kt_6]
          have b446 : IV x445 6 3072 := by rw [ex445]; exact iv_add b8 kc_6 (by decide)
          refine m_iinc (v := x445) (L1 := [some (.ref b), some (.ref (G.1 0 0)), some (.ref (G.1 22 0)), some (.int x445)]) C dL_law_1028 rfl (by rw [ex445]; rfl) (by decide) rfl rfl ?_
          refine m_goto (tgt := 18) C dL_law_1031 (by decide) ?_
          refine m_widen (c2 := 250 + 8 * x445.toInt.toNat) (s2 := 5300 + 24 * x445.toInt.toNat) (by omega) (by omega) ?_
          exact ih18 τ434 x445 S I i435 r441 r442 r443 r444 (iv_wk b446 (by decide)) (by have q := hm18; omega)
        by_cases s447 : x11.toInt = 12
        · refine m_tableIn (tgt := 544) (off := 511) C dL_law_33 (by omega) (by omega) (by rw [s447]; rfl) (by decide) ?_
          have b448 : IV x11 12 12 := ⟨by omega, by omega⟩
          refine m_aload_n C dL_law_544 rfl rfl ?_
          refine m_aload_n C dL_law_545 rfl rfl ?_
          refine m_iload_n C dL_law_546 rfl rfl ?_
          refine m_iconst (v := 1) C dL_law_547 (by decide) ?_
          refine m_iadd C dL_law_548 ?_
          refine m_topi (fun x449 ex449 => ?_)
          have tx449 : x449.toInt = y3.toInt + 1 := by rw [ex449, ti_addv b8 kc_1 (by decide), kt_1]
          have b450 : IV x449 1 3067 := by rw [ex449]; exact iv_add b8 kc_1 (by decide)
          refine m_sld C hX hbl hbA ⟨by omega, by omega⟩ dL_law_549 ?_
          refine m_topi (fun x451 ex451 => ?_)
          refine m_aload_n C dL_law_550 rfl rfl ?_
          refine m_iload_n C dL_law_551 rfl rfl ?_
          refine m_iconst (v := 2) C dL_law_552 (by decide) ?_
          refine m_iadd C dL_law_553 ?_
          refine m_topi (fun x452 ex452 => ?_)
          have tx452 : x452.toInt = y3.toInt + 2 := by rw [ex452, ti_addv b8 kc_2 (by decide), kt_2]
          have b453 : IV x452 2 3068 := by rw [ex452]; exact iv_add b8 kc_2 (by decide)
          refine m_sld C hX hbl hbA ⟨by omega, by omega⟩ dL_law_554 ?_
          refine m_topi (fun x454 ex454 => ?_)
          refine m_callV (n := 2) (ci := 10) (st := []) C (c_X11_person l G τ (x451) (x454) iτ ) (by decide) (by decide) rfl rfl rfl q3_110 q3_107 q3_108 q3_109 q1_1 (by decide +kernel) rfl (by decide) ⟨by show (250 + 8 * y3.toInt.toNat) + 0 ≤ 600000; omega, by show (5300 + 24 * y3.toInt.toNat) + 0 ≤ 7302250; omega⟩ rfl (Nat.le_of_ble_eq_true rfl) dL_law_555 ?_
          rintro _ τ455 ⟨x458, rfl, i456, f457, b459⟩
          have r462 : MA τ455 S I := mτ.fr iτ f457 (by decide) (by decide)
          have r463 : Rel τ455 := rτ.call f457 (by decide) (by decide)
          have r464 : RT τ455 := tτ.call f457 (by decide) (by decide)
          have r465 : CA τ455 S I := cτ.fr f457 (by decide) (by decide)
          show MW p l e _ s m _ below meth c _ 4 G (250 + 8 * y3.toInt.toNat) (5300 + 24 * y3.toInt.toNat) 558 [some (.ref b), some (.ref (G.1 0 0)), some (.ref (G.1 22 0)), some (.int y3)] [.int x458] τ455
          refine m_pop C dL_law_558 rfl ?_
          refine m_aload_n C dL_law_559 rfl rfl ?_
          refine m_aload_n C dL_law_560 rfl rfl ?_
          refine m_iload_n C dL_law_561 rfl rfl ?_
          refine m_iconst (v := 1) C dL_law_562 (by decide) ?_
          refine m_iadd C dL_law_563 ?_
          refine m_topi (fun x466 ex466 => ?_)
          have tx466 : x466.toInt = y3.toInt + 1 := by rw [ex466, ti_addv b8 kc_1 (by decide), kt_1]
          have b467 : IV x466 1 3067 := by rw [ex466]; exact iv_add b8 kc_1 (by decide)
          refine m_sld C hX hbl hbA ⟨by omega, by omega⟩ dL_law_564 ?_
          refine m_eqs (w := x451) (by rw [ex451, show x466.toInt.toNat = x449.toInt.toNat by omega]) ?_
          refine m_aload_n C dL_law_565 rfl rfl ?_
          refine m_iload_n C dL_law_566 rfl rfl ?_
          refine m_iconst (v := 2) C dL_law_567 (by decide) ?_
          refine m_iadd C dL_law_568 ?_
          refine m_topi (fun x468 ex468 => ?_)
          have tx468 : x468.toInt = y3.toInt + 2 := by rw [ex468, ti_addv b8 kc_2 (by decide), kt_2]
          have b469 : IV x468 2 3068 := by rw [ex468]; exact iv_add b8 kc_2 (by decide)
          refine m_sld C hX hbl hbA ⟨by omega, by omega⟩ dL_law_569 ?_
          refine m_eqs (w := x454) (by rw [ex454, show x468.toInt.toNat = x452.toInt.toNat by omega]) ?_
          refine m_callV (n := 2) (ci := 11) (st := []) C (c_X12_person l G τ455 (x451) (x454) i456 ) (by decide) (by decide) rfl rfl rfl q5_115 q5_112 q5_113 q5_114 q1_7 (by decide +kernel) rfl (by decide) ⟨by show (250 + 8 * y3.toInt.toNat) + 0 ≤ 600000; omega, by show (5300 + 24 * y3.toInt.toNat) + 0 ≤ 7302250; omega⟩ rfl (Nat.le_of_ble_eq_true rfl) dL_law_570 ?_
          rintro _ τ470 ⟨x473, rfl, i471, f472, b474⟩
          have r477 : Rel τ470 := r463.call f472 (by decide) (by decide)
          have r478 : RT τ470 := r464.call f472 (by decide) (by decide)
          have r479 : CA τ470 S I := r465.fr f472 (by decide) (by decide)
          have r480 : MA τ470 S I := r462.fr i456 f472 (by decide) (by decide)
          show MW p l e _ s m _ below meth c _ 4 G (250 + 8 * y3.toInt.toNat) (5300 + 24 * y3.toInt.toNat) 573 [some (.ref b), some (.ref (G.1 0 0)), some (.ref (G.1 22 0)), some (.int y3)] [.int x473] τ470
          refine m_pop C dL_law_573 rfl ?_
          refine m_goto (tgt := 1028) C dL_law_574 (by decide) ?_
          obtain ⟨x481, ex481⟩ : ∃ y : Int32, y = y3 + 6 := ⟨_, rfl⟩
          have tx481 : x481.toInt = y3.toInt + 6 := by rw [ex481, ti_addv b8 kc_6 (by decide), kt_6]
          have b482 : IV x481 6 3072 := by rw [ex481]; exact iv_add b8 kc_6 (by decide)
          refine m_iinc (v := x481) (L1 := [some (.ref b), some (.ref (G.1 0 0)), some (.ref (G.1 22 0)), some (.int x481)]) C dL_law_1028 rfl (by rw [ex481]; rfl) (by decide) rfl rfl ?_
          refine m_goto (tgt := 18) C dL_law_1031 (by decide) ?_
          refine m_widen (c2 := 250 + 8 * x481.toInt.toNat) (s2 := 5300 + 24 * x481.toInt.toNat) (by omega) (by omega) ?_
          exact ih18 τ470 x481 S I i471 r477 r478 r479 r480 (iv_wk b482 (by decide)) (by have q := hm18; omega)
        by_cases s483 : x11.toInt = 13
        · refine m_tableIn (tgt := 577) (off := 544) C dL_law_33 (by omega) (by omega) (by rw [s483]; rfl) (by decide) ?_
          have b484 : IV x11 13 13 := ⟨by omega, by omega⟩
          refine m_aload_n C dL_law_577 rfl rfl ?_
          refine m_aload_n C dL_law_578 rfl rfl ?_
          refine m_iload_n C dL_law_579 rfl rfl ?_
          refine m_iconst (v := 1) C dL_law_580 (by decide) ?_
          refine m_iadd C dL_law_581 ?_
          refine m_topi (fun x485 ex485 => ?_)
          have tx485 : x485.toInt = y3.toInt + 1 := by rw [ex485, ti_addv b8 kc_1 (by decide), kt_1]
          have b486 : IV x485 1 3067 := by rw [ex485]; exact iv_add b8 kc_1 (by decide)
          refine m_sld C hX hbl hbA ⟨by omega, by omega⟩ dL_law_582 ?_
          refine m_topi (fun x487 ex487 => ?_)
          refine m_callV (n := 1) (ci := 10) (st := []) C (c_X11_lean l G τ (x487) iτ ) (by decide) (by decide) rfl rfl rfl q3_120 q3_117 q3_118 q3_119 q1_1 (by decide +kernel) rfl (by decide) ⟨by show (250 + 8 * y3.toInt.toNat) + 0 ≤ 600000; omega, by show (5300 + 24 * y3.toInt.toNat) + 0 ≤ 7302250; omega⟩ rfl (Nat.le_of_ble_eq_true rfl) dL_law_583 ?_
          rintro _ τ488 ⟨x491, rfl, i489, f490, b492⟩
          have r495 : MA τ488 S I := mτ.fr iτ f490 (by decide) (by decide)
          have r496 : Rel τ488 := rτ.call f490 (by decide) (by decide)
          have r497 : RT τ488 := tτ.call f490 (by decide) (by decide)
          have r498 : CA τ488 S I := cτ.fr f490 (by decide) (by decide)
          show MW p l e _ s m _ below meth c _ 4 G (250 + 8 * y3.toInt.toNat) (5300 + 24 * y3.toInt.toNat) 586 [some (.ref b), some (.ref (G.1 0 0)), some (.ref (G.1 22 0)), some (.int y3)] [.int x491] τ488
          refine m_pop C dL_law_586 rfl ?_
          refine m_aload_n C dL_law_587 rfl rfl ?_
          refine m_aload_n C dL_law_588 rfl rfl ?_
          refine m_iload_n C dL_law_589 rfl rfl ?_
          refine m_iconst (v := 1) C dL_law_590 (by decide) ?_
          refine m_iadd C dL_law_591 ?_
          refine m_topi (fun x499 ex499 => ?_)
          have tx499 : x499.toInt = y3.toInt + 1 := by rw [ex499, ti_addv b8 kc_1 (by decide), kt_1]
          have b500 : IV x499 1 3067 := by rw [ex499]; exact iv_add b8 kc_1 (by decide)
          refine m_sld C hX hbl hbA ⟨by omega, by omega⟩ dL_law_592 ?_
          refine m_eqs (w := x487) (by rw [ex487, show x499.toInt.toNat = x485.toInt.toNat by omega]) ?_
          refine m_callV (n := 1) (ci := 11) (st := []) C (c_X12_lean l G τ488 (x487) i489 ) (by decide) (by decide) rfl rfl rfl q5_120 q5_117 q5_118 q5_119 q1_7 (by decide +kernel) rfl (by decide) ⟨by show (250 + 8 * y3.toInt.toNat) + 0 ≤ 600000; omega, by show (5300 + 24 * y3.toInt.toNat) + 0 ≤ 7302250; omega⟩ rfl (Nat.le_of_ble_eq_true rfl) dL_law_593 ?_
          rintro _ τ501 ⟨x504, rfl, i502, f503, b505⟩
          have r508 : Rel τ501 := r496.call f503 (by decide) (by decide)
          have r509 : RT τ501 := r497.call f503 (by decide) (by decide)
          have r510 : CA τ501 S I := r498.fr f503 (by decide) (by decide)
          have r511 : MA τ501 S I := r495.fr i489 f503 (by decide) (by decide)
          show MW p l e _ s m _ below meth c _ 4 G (250 + 8 * y3.toInt.toNat) (5300 + 24 * y3.toInt.toNat) 596 [some (.ref b), some (.ref (G.1 0 0)), some (.ref (G.1 22 0)), some (.int y3)] [.int x504] τ501
          refine m_pop C dL_law_596 rfl ?_
          refine m_goto (tgt := 1028) C dL_law_597 (by decide) ?_
          obtain ⟨x512, ex512⟩ : ∃ y : Int32, y = y3 + 6 := ⟨_, rfl⟩
          have tx512 : x512.toInt = y3.toInt + 6 := by rw [ex512, ti_addv b8 kc_6 (by decide), kt_6]
          have b513 : IV x512 6 3072 := by rw [ex512]; exact iv_add b8 kc_6 (by decide)
          refine m_iinc (v := x512) (L1 := [some (.ref b), some (.ref (G.1 0 0)), some (.ref (G.1 22 0)), some (.int x512)]) C dL_law_1028 rfl (by rw [ex512]; rfl) (by decide) rfl rfl ?_
          refine m_goto (tgt := 18) C dL_law_1031 (by decide) ?_
          refine m_widen (c2 := 250 + 8 * x512.toInt.toNat) (s2 := 5300 + 24 * x512.toInt.toNat) (by omega) (by omega) ?_
          exact ih18 τ501 x512 S I i502 r508 r509 r510 r511 (iv_wk b513 (by decide)) (by have q := hm18; omega)
        by_cases s514 : x11.toInt = 14
        · refine m_tableIn (tgt := 600) (off := 567) C dL_law_33 (by omega) (by omega) (by rw [s514]; rfl) (by decide) ?_
          have b515 : IV x11 14 14 := ⟨by omega, by omega⟩
          refine m_aload_n C dL_law_600 rfl rfl ?_
          refine m_aload_n C dL_law_601 rfl rfl ?_
          refine m_iload_n C dL_law_602 rfl rfl ?_
          refine m_iconst (v := 1) C dL_law_603 (by decide) ?_
          refine m_iadd C dL_law_604 ?_
          refine m_topi (fun x516 ex516 => ?_)
          have tx516 : x516.toInt = y3.toInt + 1 := by rw [ex516, ti_addv b8 kc_1 (by decide), kt_1]
          have b517 : IV x516 1 3067 := by rw [ex516]; exact iv_add b8 kc_1 (by decide)
          refine m_sld C hX hbl hbA ⟨by omega, by omega⟩ dL_law_605 ?_
          refine m_topi (fun x518 ex518 => ?_)
          refine m_callV (n := 1) (ci := 10) (st := []) C (c_X11_worstS l G τ (x518) iτ ) (by decide) (by decide) rfl rfl rfl q3_125 q3_122 q3_123 q3_124 q1_1 (by decide +kernel) rfl (by decide) ⟨by show (250 + 8 * y3.toInt.toNat) + 0 ≤ 600000; omega, by show (5300 + 24 * y3.toInt.toNat) + 0 ≤ 7302250; omega⟩ rfl (Nat.le_of_ble_eq_true rfl) dL_law_606 ?_
          rintro _ τ519 ⟨x522, rfl, i520, f521, b523, h525⟩
          have r526 : MA τ519 S I := mτ.fr iτ f521 (by decide) (by decide)
          have r527 : Rel τ519 := rτ.call f521 (by decide) (by decide)
          have r528 : RT τ519 := tτ.call f521 (by decide) (by decide)
          have r529 : CA τ519 S I := cτ.sf f521 h525 (by decide) (by decide)
          show MW p l e _ s m _ below meth c _ 4 G (250 + 8 * y3.toInt.toNat) (5300 + 24 * y3.toInt.toNat) 609 [some (.ref b), some (.ref (G.1 0 0)), some (.ref (G.1 22 0)), some (.int y3)] [.int x522] τ519
          refine m_pop C dL_law_609 rfl ?_
          refine m_aload_n C dL_law_610 rfl rfl ?_
          refine m_aload_n C dL_law_611 rfl rfl ?_
          refine m_iload_n C dL_law_612 rfl rfl ?_
          refine m_iconst (v := 1) C dL_law_613 (by decide) ?_
          refine m_iadd C dL_law_614 ?_
          refine m_topi (fun x530 ex530 => ?_)
          have tx530 : x530.toInt = y3.toInt + 1 := by rw [ex530, ti_addv b8 kc_1 (by decide), kt_1]
          have b531 : IV x530 1 3067 := by rw [ex530]; exact iv_add b8 kc_1 (by decide)
          refine m_sld C hX hbl hbA ⟨by omega, by omega⟩ dL_law_615 ?_
          refine m_eqs (w := x518) (by rw [ex518, show x530.toInt.toNat = x516.toInt.toNat by omega]) ?_
          refine m_callV (n := 1) (ci := 11) (st := []) C (c_X12_worstS l G τ519 (x518) i520 ) (by decide) (by decide) rfl rfl rfl q5_124 q5_121 q5_122 q5_123 q1_7 (by decide +kernel) rfl (by decide) ⟨by show (250 + 8 * y3.toInt.toNat) + 0 ≤ 600000; omega, by show (5300 + 24 * y3.toInt.toNat) + 0 ≤ 7302250; omega⟩ rfl (Nat.le_of_ble_eq_true rfl) dL_law_616 ?_
          rintro _ τ532 ⟨x535, rfl, i533, f534, b536, h538⟩
          have r539 : Rel τ532 := r527.call f534 (by decide) (by decide)
          have r540 : RT τ532 := r528.call f534 (by decide) (by decide)
          have r541 : CA τ532 S I := r529.fr f534 (by decide) (by decide)
          have r542 : MA τ532 S I := r526.sf i520 f534 h538 (by decide) (by decide)
          show MW p l e _ s m _ below meth c _ 4 G (250 + 8 * y3.toInt.toNat) (5300 + 24 * y3.toInt.toNat) 619 [some (.ref b), some (.ref (G.1 0 0)), some (.ref (G.1 22 0)), some (.int y3)] [.int x535] τ532
          refine m_pop C dL_law_619 rfl ?_
          refine m_goto (tgt := 1028) C dL_law_620 (by decide) ?_
          obtain ⟨x543, ex543⟩ : ∃ y : Int32, y = y3 + 6 := ⟨_, rfl⟩
          have tx543 : x543.toInt = y3.toInt + 6 := by rw [ex543, ti_addv b8 kc_6 (by decide), kt_6]
          have b544 : IV x543 6 3072 := by rw [ex543]; exact iv_add b8 kc_6 (by decide)
          refine m_iinc (v := x543) (L1 := [some (.ref b), some (.ref (G.1 0 0)), some (.ref (G.1 22 0)), some (.int x543)]) C dL_law_1028 rfl (by rw [ex543]; rfl) (by decide) rfl rfl ?_
          refine m_goto (tgt := 18) C dL_law_1031 (by decide) ?_
          refine m_widen (c2 := 250 + 8 * x543.toInt.toNat) (s2 := 5300 + 24 * x543.toInt.toNat) (by omega) (by omega) ?_
          exact ih18 τ532 x543 S I i533 r539 r540 r541 r542 (iv_wk b544 (by decide)) (by have q := hm18; omega)
        by_cases s545 : x11.toInt = 15
        · refine m_tableIn (tgt := 623) (off := 590) C dL_law_33 (by omega) (by omega) (by rw [s545]; rfl) (by decide) ?_
          have b546 : IV x11 15 15 := ⟨by omega, by omega⟩
          refine m_aload_n C dL_law_623 rfl rfl ?_
          refine m_callV (n := 0) (ci := 10) (st := []) C (c_X11_mostS l G τ  iτ ) (by decide) (by decide) rfl rfl rfl q3_139 q3_136 q3_137 q3_138 q1_1 (by decide +kernel) rfl (by decide) ⟨by show (250 + 8 * y3.toInt.toNat) + 0 ≤ 600000; omega, by show (5300 + 24 * y3.toInt.toNat) + 0 ≤ 7302250; omega⟩ rfl (Nat.le_of_ble_eq_true rfl) dL_law_624 ?_
          rintro _ τ547 ⟨x550, rfl, i548, f549, b551, h553⟩
          have r554 : MA τ547 S I := mτ.fr iτ f549 (by decide) (by decide)
          have r555 : Rel τ547 := rτ.call f549 (by decide) (by decide)
          have r556 : RT τ547 := tτ.call f549 (by decide) (by decide)
          have r557 : CA τ547 S I := cτ.sf f549 h553 (by decide) (by decide)
          show MW p l e _ s m _ below meth c _ 4 G (250 + 8 * y3.toInt.toNat) (5300 + 24 * y3.toInt.toNat) 627 [some (.ref b), some (.ref (G.1 0 0)), some (.ref (G.1 22 0)), some (.int y3)] [.int x550] τ547
          refine m_pop C dL_law_627 rfl ?_
          refine m_aload_n C dL_law_628 rfl rfl ?_
          refine m_callV (n := 0) (ci := 11) (st := []) C (c_X12_mostS l G τ547  i548 ) (by decide) (by decide) rfl rfl rfl q5_136 q5_133 q5_134 q5_135 q1_7 (by decide +kernel) rfl (by decide) ⟨by show (250 + 8 * y3.toInt.toNat) + 0 ≤ 600000; omega, by show (5300 + 24 * y3.toInt.toNat) + 0 ≤ 7302250; omega⟩ rfl (Nat.le_of_ble_eq_true rfl) dL_law_629 ?_
          rintro _ τ558 ⟨x561, rfl, i559, f560, b562, h564⟩
          have r565 : Rel τ558 := r555.call f560 (by decide) (by decide)
          have r566 : RT τ558 := r556.call f560 (by decide) (by decide)
          have r567 : CA τ558 S I := r557.fr f560 (by decide) (by decide)
          have r568 : MA τ558 S I := r554.sf i548 f560 h564 (by decide) (by decide)
          show MW p l e _ s m _ below meth c _ 4 G (250 + 8 * y3.toInt.toNat) (5300 + 24 * y3.toInt.toNat) 632 [some (.ref b), some (.ref (G.1 0 0)), some (.ref (G.1 22 0)), some (.int y3)] [.int x561] τ558
          refine m_pop C dL_law_632 rfl ?_
          refine m_goto (tgt := 1028) C dL_law_633 (by decide) ?_
          obtain ⟨x569, ex569⟩ : ∃ y : Int32, y = y3 + 6 := ⟨_, rfl⟩
          have tx569 : x569.toInt = y3.toInt + 6 := by rw [ex569, ti_addv b8 kc_6 (by decide), kt_6]
          have b570 : IV x569 6 3072 := by rw [ex569]; exact iv_add b8 kc_6 (by decide)
          refine m_iinc (v := x569) (L1 := [some (.ref b), some (.ref (G.1 0 0)), some (.ref (G.1 22 0)), some (.int x569)]) C dL_law_1028 rfl (by rw [ex569]; rfl) (by decide) rfl rfl ?_
          refine m_goto (tgt := 18) C dL_law_1031 (by decide) ?_
          refine m_widen (c2 := 250 + 8 * x569.toInt.toNat) (s2 := 5300 + 24 * x569.toInt.toNat) (by omega) (by omega) ?_
          exact ih18 τ558 x569 S I i559 r565 r566 r567 r568 (iv_wk b570 (by decide)) (by have q := hm18; omega)
        by_cases s571 : x11.toInt = 16
        · refine m_tableIn (tgt := 636) (off := 603) C dL_law_33 (by omega) (by omega) (by rw [s571]; rfl) (by decide) ?_
          have b572 : IV x11 16 16 := ⟨by omega, by omega⟩
          refine m_aload_n C dL_law_636 rfl rfl ?_
          refine m_aload_n C dL_law_637 rfl rfl ?_
          refine m_iload_n C dL_law_638 rfl rfl ?_
          refine m_iconst (v := 1) C dL_law_639 (by decide) ?_
          refine m_iadd C dL_law_640 ?_
          refine m_topi (fun x573 ex573 => ?_)
          have tx573 : x573.toInt = y3.toInt + 1 := by rw [ex573, ti_addv b8 kc_1 (by decide), kt_1]
          have b574 : IV x573 1 3067 := by rw [ex573]; exact iv_add b8 kc_1 (by decide)
          refine m_sld C hX hbl hbA ⟨by omega, by omega⟩ dL_law_641 ?_
          refine m_topi (fun x575 ex575 => ?_)
          refine m_aload_n C dL_law_642 rfl rfl ?_
          refine m_iload_n C dL_law_643 rfl rfl ?_
          refine m_iconst (v := 2) C dL_law_644 (by decide) ?_
          refine m_iadd C dL_law_645 ?_
          refine m_topi (fun x576 ex576 => ?_)
          have tx576 : x576.toInt = y3.toInt + 2 := by rw [ex576, ti_addv b8 kc_2 (by decide), kt_2]
          have b577 : IV x576 2 3068 := by rw [ex576]; exact iv_add b8 kc_2 (by decide)
          refine m_sld C hX hbl hbA ⟨by omega, by omega⟩ dL_law_646 ?_
          refine m_topi (fun x578 ex578 => ?_)
          refine m_aload_n C dL_law_647 rfl rfl ?_
          refine m_iload_n C dL_law_648 rfl rfl ?_
          refine m_iconst (v := 3) C dL_law_649 (by decide) ?_
          refine m_iadd C dL_law_650 ?_
          refine m_topi (fun x579 ex579 => ?_)
          have tx579 : x579.toInt = y3.toInt + 3 := by rw [ex579, ti_addv b8 kc_3 (by decide), kt_3]
          have b580 : IV x579 3 3069 := by rw [ex579]; exact iv_add b8 kc_3 (by decide)
          refine m_sld C hX hbl hbA ⟨by omega, by omega⟩ dL_law_651 ?_
          refine m_topi (fun x581 ex581 => ?_)
          refine m_callV (n := 3) (ci := 10) (st := []) C (c_X11_twoS l G τ (x575) (x578) (x581) iτ ) (by decide) (by decide) rfl rfl rfl q3_157 q3_154 q3_155 q3_156 q1_1 (by decide +kernel) rfl (by decide) ⟨by show (250 + 8 * y3.toInt.toNat) + 0 ≤ 600000; omega, by show (5300 + 24 * y3.toInt.toNat) + 0 ≤ 7302250; omega⟩ rfl (Nat.le_of_ble_eq_true rfl) dL_law_652 ?_
          rintro _ τ582 ⟨x585, rfl, i583, f584, b586, h588⟩
          have r589 : MA τ582 S I := mτ.fr iτ f584 (by decide) (by decide)
          have r590 : Rel τ582 := rτ.call f584 (by decide) (by decide)
          have r591 : RT τ582 := tτ.call f584 (by decide) (by decide)
          have r592 : CA τ582 S I := cτ.sf f584 h588 (by decide) (by decide)
          show MW p l e _ s m _ below meth c _ 4 G (250 + 8 * y3.toInt.toNat) (5300 + 24 * y3.toInt.toNat) 655 [some (.ref b), some (.ref (G.1 0 0)), some (.ref (G.1 22 0)), some (.int y3)] [.int x585] τ582
          refine m_pop C dL_law_655 rfl ?_
          refine m_aload_n C dL_law_656 rfl rfl ?_
          refine m_aload_n C dL_law_657 rfl rfl ?_
          refine m_iload_n C dL_law_658 rfl rfl ?_
          refine m_iconst (v := 1) C dL_law_659 (by decide) ?_
          refine m_iadd C dL_law_660 ?_
          refine m_topi (fun x593 ex593 => ?_)
          have tx593 : x593.toInt = y3.toInt + 1 := by rw [ex593, ti_addv b8 kc_1 (by decide), kt_1]
          have b594 : IV x593 1 3067 := by rw [ex593]; exact iv_add b8 kc_1 (by decide)
          refine m_sld C hX hbl hbA ⟨by omega, by omega⟩ dL_law_661 ?_
          refine m_eqs (w := x575) (by rw [ex575, show x593.toInt.toNat = x573.toInt.toNat by omega]) ?_
          refine m_aload_n C dL_law_662 rfl rfl ?_
          refine m_iload_n C dL_law_663 rfl rfl ?_
          refine m_iconst (v := 2) C dL_law_664 (by decide) ?_
          refine m_iadd C dL_law_665 ?_
          refine m_topi (fun x595 ex595 => ?_)
          have tx595 : x595.toInt = y3.toInt + 2 := by rw [ex595, ti_addv b8 kc_2 (by decide), kt_2]
          have b596 : IV x595 2 3068 := by rw [ex595]; exact iv_add b8 kc_2 (by decide)
          refine m_sld C hX hbl hbA ⟨by omega, by omega⟩ dL_law_666 ?_
          refine m_eqs (w := x578) (by rw [ex578, show x595.toInt.toNat = x576.toInt.toNat by omega]) ?_
          refine m_aload_n C dL_law_667 rfl rfl ?_
          refine m_iload_n C dL_law_668 rfl rfl ?_
          refine m_iconst (v := 3) C dL_law_669 (by decide) ?_
          refine m_iadd C dL_law_670 ?_
          refine m_topi (fun x597 ex597 => ?_)
          have tx597 : x597.toInt = y3.toInt + 3 := by rw [ex597, ti_addv b8 kc_3 (by decide), kt_3]
          have b598 : IV x597 3 3069 := by rw [ex597]; exact iv_add b8 kc_3 (by decide)
          refine m_sld C hX hbl hbA ⟨by omega, by omega⟩ dL_law_671 ?_
          refine m_eqs (w := x581) (by rw [ex581, show x597.toInt.toNat = x579.toInt.toNat by omega]) ?_
          refine m_callV (n := 3) (ci := 11) (st := []) C (c_X12_twoS l G τ582 (x575) (x578) (x581) i583 ) (by decide) (by decide) rfl rfl rfl q5_146 q5_143 q5_144 q5_145 q1_7 (by decide +kernel) rfl (by decide) ⟨by show (250 + 8 * y3.toInt.toNat) + 0 ≤ 600000; omega, by show (5300 + 24 * y3.toInt.toNat) + 0 ≤ 7302250; omega⟩ rfl (Nat.le_of_ble_eq_true rfl) dL_law_672 ?_
          rintro _ τ599 ⟨x602, rfl, i600, f601, b603, h605⟩
          have r606 : Rel τ599 := r590.call f601 (by decide) (by decide)
          have r607 : RT τ599 := r591.call f601 (by decide) (by decide)
          have r608 : CA τ599 S I := r592.fr f601 (by decide) (by decide)
          have r609 : MA τ599 S I := r589.sf i583 f601 h605 (by decide) (by decide)
          show MW p l e _ s m _ below meth c _ 4 G (250 + 8 * y3.toInt.toNat) (5300 + 24 * y3.toInt.toNat) 675 [some (.ref b), some (.ref (G.1 0 0)), some (.ref (G.1 22 0)), some (.int y3)] [.int x602] τ599
          refine m_pop C dL_law_675 rfl ?_
          refine m_goto (tgt := 1028) C dL_law_676 (by decide) ?_
          obtain ⟨x610, ex610⟩ : ∃ y : Int32, y = y3 + 6 := ⟨_, rfl⟩
          have tx610 : x610.toInt = y3.toInt + 6 := by rw [ex610, ti_addv b8 kc_6 (by decide), kt_6]
          have b611 : IV x610 6 3072 := by rw [ex610]; exact iv_add b8 kc_6 (by decide)
          refine m_iinc (v := x610) (L1 := [some (.ref b), some (.ref (G.1 0 0)), some (.ref (G.1 22 0)), some (.int x610)]) C dL_law_1028 rfl (by rw [ex610]; rfl) (by decide) rfl rfl ?_
          refine m_goto (tgt := 18) C dL_law_1031 (by decide) ?_
          refine m_widen (c2 := 250 + 8 * x610.toInt.toNat) (s2 := 5300 + 24 * x610.toInt.toNat) (by omega) (by omega) ?_
          exact ih18 τ599 x610 S I i600 r606 r607 r608 r609 (iv_wk b611 (by decide)) (by have q := hm18; omega)
        by_cases s612 : x11.toInt = 17
        · refine m_tableIn (tgt := 679) (off := 646) C dL_law_33 (by omega) (by omega) (by rw [s612]; rfl) (by decide) ?_
          have b613 : IV x11 17 17 := ⟨by omega, by omega⟩
          refine m_aload_n C dL_law_679 rfl rfl ?_
          refine m_aload_n C dL_law_680 rfl rfl ?_
          refine m_iload_n C dL_law_681 rfl rfl ?_
          refine m_iconst (v := 1) C dL_law_682 (by decide) ?_
          refine m_iadd C dL_law_683 ?_
          refine m_topi (fun x614 ex614 => ?_)
          have tx614 : x614.toInt = y3.toInt + 1 := by rw [ex614, ti_addv b8 kc_1 (by decide), kt_1]
          have b615 : IV x614 1 3067 := by rw [ex614]; exact iv_add b8 kc_1 (by decide)
          refine m_sld C hX hbl hbA ⟨by omega, by omega⟩ dL_law_684 ?_
          refine m_topi (fun x616 ex616 => ?_)
          refine m_callV (n := 1) (ci := 10) (st := []) C (c_X11_stonesS l G τ (x616) iτ ) (by decide) (by decide) rfl rfl rfl q3_170 q3_167 q3_168 q3_169 q1_1 (by decide +kernel) rfl (by decide) ⟨by show (250 + 8 * y3.toInt.toNat) + 0 ≤ 600000; omega, by show (5300 + 24 * y3.toInt.toNat) + 0 ≤ 7302250; omega⟩ rfl (Nat.le_of_ble_eq_true rfl) dL_law_685 ?_
          rintro _ τ617 ⟨x620, rfl, i618, f619, b621, h623⟩
          have r624 : MA τ617 S I := mτ.fr iτ f619 (by decide) (by decide)
          have r625 : Rel τ617 := rτ.call f619 (by decide) (by decide)
          have r626 : RT τ617 := tτ.call f619 (by decide) (by decide)
          have r627 : CA τ617 S I := cτ.sf f619 h623 (by decide) (by decide)
          show MW p l e _ s m _ below meth c _ 4 G (250 + 8 * y3.toInt.toNat) (5300 + 24 * y3.toInt.toNat) 688 [some (.ref b), some (.ref (G.1 0 0)), some (.ref (G.1 22 0)), some (.int y3)] [.int x620] τ617
          refine m_pop C dL_law_688 rfl ?_
          refine m_aload_n C dL_law_689 rfl rfl ?_
          refine m_aload_n C dL_law_690 rfl rfl ?_
          refine m_iload_n C dL_law_691 rfl rfl ?_
          refine m_iconst (v := 1) C dL_law_692 (by decide) ?_
          refine m_iadd C dL_law_693 ?_
          refine m_topi (fun x628 ex628 => ?_)
          have tx628 : x628.toInt = y3.toInt + 1 := by rw [ex628, ti_addv b8 kc_1 (by decide), kt_1]
          have b629 : IV x628 1 3067 := by rw [ex628]; exact iv_add b8 kc_1 (by decide)
          refine m_sld C hX hbl hbA ⟨by omega, by omega⟩ dL_law_694 ?_
          refine m_eqs (w := x616) (by rw [ex616, show x628.toInt.toNat = x614.toInt.toNat by omega]) ?_
          refine m_callV (n := 1) (ci := 11) (st := []) C (c_X12_stonesS l G τ617 (x616) i618 ) (by decide) (by decide) rfl rfl rfl q5_150 q5_147 q5_148 q5_149 q1_7 (by decide +kernel) rfl (by decide) ⟨by show (250 + 8 * y3.toInt.toNat) + 0 ≤ 600000; omega, by show (5300 + 24 * y3.toInt.toNat) + 0 ≤ 7302250; omega⟩ rfl (Nat.le_of_ble_eq_true rfl) dL_law_695 ?_
          rintro _ τ630 ⟨x633, rfl, i631, f632, b634, h636⟩
          have r637 : Rel τ630 := r625.call f632 (by decide) (by decide)
          have r638 : RT τ630 := r626.call f632 (by decide) (by decide)
          have r639 : CA τ630 S I := r627.fr f632 (by decide) (by decide)
          have r640 : MA τ630 S I := r624.sf i618 f632 h636 (by decide) (by decide)
          show MW p l e _ s m _ below meth c _ 4 G (250 + 8 * y3.toInt.toNat) (5300 + 24 * y3.toInt.toNat) 698 [some (.ref b), some (.ref (G.1 0 0)), some (.ref (G.1 22 0)), some (.int y3)] [.int x633] τ630
          refine m_pop C dL_law_698 rfl ?_
          refine m_goto (tgt := 1028) C dL_law_699 (by decide) ?_
          obtain ⟨x641, ex641⟩ : ∃ y : Int32, y = y3 + 6 := ⟨_, rfl⟩
          have tx641 : x641.toInt = y3.toInt + 6 := by rw [ex641, ti_addv b8 kc_6 (by decide), kt_6]
          have b642 : IV x641 6 3072 := by rw [ex641]; exact iv_add b8 kc_6 (by decide)
          refine m_iinc (v := x641) (L1 := [some (.ref b), some (.ref (G.1 0 0)), some (.ref (G.1 22 0)), some (.int x641)]) C dL_law_1028 rfl (by rw [ex641]; rfl) (by decide) rfl rfl ?_
          refine m_goto (tgt := 18) C dL_law_1031 (by decide) ?_
          refine m_widen (c2 := 250 + 8 * x641.toInt.toNat) (s2 := 5300 + 24 * x641.toInt.toNat) (by omega) (by omega) ?_
          exact ih18 τ630 x641 S I i631 r637 r638 r639 r640 (iv_wk b642 (by decide)) (by have q := hm18; omega)
        by_cases s643 : x11.toInt = 18
        · refine m_tableIn (tgt := 702) (off := 669) C dL_law_33 (by omega) (by omega) (by rw [s643]; rfl) (by decide) ?_
          have b644 : IV x11 18 18 := ⟨by omega, by omega⟩
          refine m_aload_n C dL_law_702 rfl rfl ?_
          refine m_aload_n C dL_law_703 rfl rfl ?_
          refine m_iload_n C dL_law_704 rfl rfl ?_
          refine m_iconst (v := 1) C dL_law_705 (by decide) ?_
          refine m_iadd C dL_law_706 ?_
          refine m_topi (fun x645 ex645 => ?_)
          have tx645 : x645.toInt = y3.toInt + 1 := by rw [ex645, ti_addv b8 kc_1 (by decide), kt_1]
          have b646 : IV x645 1 3067 := by rw [ex645]; exact iv_add b8 kc_1 (by decide)
          refine m_sld C hX hbl hbA ⟨by omega, by omega⟩ dL_law_707 ?_
          refine m_topi (fun x647 ex647 => ?_)
          refine m_aload_n C dL_law_708 rfl rfl ?_
          refine m_iload_n C dL_law_709 rfl rfl ?_
          refine m_iconst (v := 2) C dL_law_710 (by decide) ?_
          refine m_iadd C dL_law_711 ?_
          refine m_topi (fun x648 ex648 => ?_)
          have tx648 : x648.toInt = y3.toInt + 2 := by rw [ex648, ti_addv b8 kc_2 (by decide), kt_2]
          have b649 : IV x648 2 3068 := by rw [ex648]; exact iv_add b8 kc_2 (by decide)
          refine m_sld C hX hbl hbA ⟨by omega, by omega⟩ dL_law_712 ?_
          refine m_topi (fun x650 ex650 => ?_)
          refine m_aload_n C dL_law_713 rfl rfl ?_
          refine m_iload_n C dL_law_714 rfl rfl ?_
          refine m_iconst (v := 3) C dL_law_715 (by decide) ?_
          refine m_iadd C dL_law_716 ?_
          refine m_topi (fun x651 ex651 => ?_)
          have tx651 : x651.toInt = y3.toInt + 3 := by rw [ex651, ti_addv b8 kc_3 (by decide), kt_3]
          have b652 : IV x651 3 3069 := by rw [ex651]; exact iv_add b8 kc_3 (by decide)
          refine m_sld C hX hbl hbA ⟨by omega, by omega⟩ dL_law_717 ?_
          refine m_topi (fun x653 ex653 => ?_)
          refine m_aload_n C dL_law_718 rfl rfl ?_
          refine m_iload_n C dL_law_719 rfl rfl ?_
          refine m_iconst (v := 4) C dL_law_720 (by decide) ?_
          refine m_iadd C dL_law_721 ?_
          refine m_topi (fun x654 ex654 => ?_)
          have tx654 : x654.toInt = y3.toInt + 4 := by rw [ex654, ti_addv b8 kc_4 (by decide), kt_4]
          have b655 : IV x654 4 3070 := by rw [ex654]; exact iv_add b8 kc_4 (by decide)
          refine m_sld C hX hbl hbA ⟨by omega, by omega⟩ dL_law_722 ?_
          refine m_topi (fun x656 ex656 => ?_)
          refine m_callV (n := 4) (ci := 10) (st := []) C (c_X11_marksS l G τ (x647) (x650) (x653) (x656) iτ ) (by decide) (by decide) rfl rfl rfl q3_187 q3_184 q3_185 q3_186 q1_1 (by decide +kernel) rfl (by decide) ⟨by show (250 + 8 * y3.toInt.toNat) + 0 ≤ 600000; omega, by show (5300 + 24 * y3.toInt.toNat) + 0 ≤ 7302250; omega⟩ rfl (Nat.le_of_ble_eq_true rfl) dL_law_723 ?_
          rintro _ τ657 ⟨x660, rfl, i658, f659, b661, h663⟩
          have r664 : MA τ657 S I := mτ.fr iτ f659 (by decide) (by decide)
          have r665 : Rel τ657 := rτ.call f659 (by decide) (by decide)
          have r666 : RT τ657 := tτ.call f659 (by decide) (by decide)
          have r667 : CA τ657 S I := cτ.sf f659 h663 (by decide) (by decide)
          show MW p l e _ s m _ below meth c _ 4 G (250 + 8 * y3.toInt.toNat) (5300 + 24 * y3.toInt.toNat) 726 [some (.ref b), some (.ref (G.1 0 0)), some (.ref (G.1 22 0)), some (.int y3)] [.int x660] τ657
          refine m_pop C dL_law_726 rfl ?_
          refine m_aload_n C dL_law_727 rfl rfl ?_
          refine m_aload_n C dL_law_728 rfl rfl ?_
          refine m_iload_n C dL_law_729 rfl rfl ?_
          refine m_iconst (v := 1) C dL_law_730 (by decide) ?_
          refine m_iadd C dL_law_731 ?_
          refine m_topi (fun x668 ex668 => ?_)
          have tx668 : x668.toInt = y3.toInt + 1 := by rw [ex668, ti_addv b8 kc_1 (by decide), kt_1]
          have b669 : IV x668 1 3067 := by rw [ex668]; exact iv_add b8 kc_1 (by decide)
          refine m_sld C hX hbl hbA ⟨by omega, by omega⟩ dL_law_732 ?_
          refine m_eqs (w := x647) (by rw [ex647, show x668.toInt.toNat = x645.toInt.toNat by omega]) ?_
          refine m_aload_n C dL_law_733 rfl rfl ?_
          refine m_iload_n C dL_law_734 rfl rfl ?_
          refine m_iconst (v := 2) C dL_law_735 (by decide) ?_
          refine m_iadd C dL_law_736 ?_
          refine m_topi (fun x670 ex670 => ?_)
          have tx670 : x670.toInt = y3.toInt + 2 := by rw [ex670, ti_addv b8 kc_2 (by decide), kt_2]
          have b671 : IV x670 2 3068 := by rw [ex670]; exact iv_add b8 kc_2 (by decide)
          refine m_sld C hX hbl hbA ⟨by omega, by omega⟩ dL_law_737 ?_
          refine m_eqs (w := x650) (by rw [ex650, show x670.toInt.toNat = x648.toInt.toNat by omega]) ?_
          refine m_aload_n C dL_law_738 rfl rfl ?_
          refine m_iload_n C dL_law_739 rfl rfl ?_
          refine m_iconst (v := 3) C dL_law_740 (by decide) ?_
          refine m_iadd C dL_law_741 ?_
          refine m_topi (fun x672 ex672 => ?_)
          have tx672 : x672.toInt = y3.toInt + 3 := by rw [ex672, ti_addv b8 kc_3 (by decide), kt_3]
          have b673 : IV x672 3 3069 := by rw [ex672]; exact iv_add b8 kc_3 (by decide)
          refine m_sld C hX hbl hbA ⟨by omega, by omega⟩ dL_law_742 ?_
          refine m_eqs (w := x653) (by rw [ex653, show x672.toInt.toNat = x651.toInt.toNat by omega]) ?_
          refine m_aload_n C dL_law_743 rfl rfl ?_
          refine m_iload_n C dL_law_744 rfl rfl ?_
          refine m_iconst (v := 4) C dL_law_745 (by decide) ?_
          refine m_iadd C dL_law_746 ?_
          refine m_topi (fun x674 ex674 => ?_)
          have tx674 : x674.toInt = y3.toInt + 4 := by rw [ex674, ti_addv b8 kc_4 (by decide), kt_4]
          have b675 : IV x674 4 3070 := by rw [ex674]; exact iv_add b8 kc_4 (by decide)
          refine m_sld C hX hbl hbA ⟨by omega, by omega⟩ dL_law_747 ?_
          refine m_eqs (w := x656) (by rw [ex656, show x674.toInt.toNat = x654.toInt.toNat by omega]) ?_
          refine m_callV (n := 4) (ci := 11) (st := []) C (c_X12_marksS l G τ657 (x647) (x650) (x653) (x656) i658 ) (by decide) (by decide) rfl rfl rfl q5_154 q5_151 q5_152 q5_153 q1_7 (by decide +kernel) rfl (by decide) ⟨by show (250 + 8 * y3.toInt.toNat) + 0 ≤ 600000; omega, by show (5300 + 24 * y3.toInt.toNat) + 0 ≤ 7302250; omega⟩ rfl (Nat.le_of_ble_eq_true rfl) dL_law_748 ?_
          rintro _ τ676 ⟨x679, rfl, i677, f678, b680, h682⟩
          have r683 : Rel τ676 := r665.call f678 (by decide) (by decide)
          have r684 : RT τ676 := r666.call f678 (by decide) (by decide)
          have r685 : CA τ676 S I := r667.fr f678 (by decide) (by decide)
          have r686 : MA τ676 S I := r664.sf i658 f678 h682 (by decide) (by decide)
          show MW p l e _ s m _ below meth c _ 4 G (250 + 8 * y3.toInt.toNat) (5300 + 24 * y3.toInt.toNat) 751 [some (.ref b), some (.ref (G.1 0 0)), some (.ref (G.1 22 0)), some (.int y3)] [.int x679] τ676
          refine m_pop C dL_law_751 rfl ?_
          refine m_goto (tgt := 1028) C dL_law_752 (by decide) ?_
          obtain ⟨x687, ex687⟩ : ∃ y : Int32, y = y3 + 6 := ⟨_, rfl⟩
          have tx687 : x687.toInt = y3.toInt + 6 := by rw [ex687, ti_addv b8 kc_6 (by decide), kt_6]
          have b688 : IV x687 6 3072 := by rw [ex687]; exact iv_add b8 kc_6 (by decide)
          refine m_iinc (v := x687) (L1 := [some (.ref b), some (.ref (G.1 0 0)), some (.ref (G.1 22 0)), some (.int x687)]) C dL_law_1028 rfl (by rw [ex687]; rfl) (by decide) rfl rfl ?_
          refine m_goto (tgt := 18) C dL_law_1031 (by decide) ?_
          refine m_widen (c2 := 250 + 8 * x687.toInt.toNat) (s2 := 5300 + 24 * x687.toInt.toNat) (by omega) (by omega) ?_
          exact ih18 τ676 x687 S I i677 r683 r684 r685 r686 (iv_wk b688 (by decide)) (by have q := hm18; omega)
        by_cases s689 : x11.toInt = 19
        · refine m_tableIn (tgt := 755) (off := 722) C dL_law_33 (by omega) (by omega) (by rw [s689]; rfl) (by decide) ?_
          have b690 : IV x11 19 19 := ⟨by omega, by omega⟩
          refine m_aload_n C dL_law_755 rfl rfl ?_
          refine m_aload_n C dL_law_756 rfl rfl ?_
          refine m_iload_n C dL_law_757 rfl rfl ?_
          refine m_iconst (v := 1) C dL_law_758 (by decide) ?_
          refine m_iadd C dL_law_759 ?_
          refine m_topi (fun x691 ex691 => ?_)
          have tx691 : x691.toInt = y3.toInt + 1 := by rw [ex691, ti_addv b8 kc_1 (by decide), kt_1]
          have b692 : IV x691 1 3067 := by rw [ex691]; exact iv_add b8 kc_1 (by decide)
          refine m_sld C hX hbl hbA ⟨by omega, by omega⟩ dL_law_760 ?_
          refine m_topi (fun x693 ex693 => ?_)
          refine m_callV (n := 1) (ci := 10) (st := []) C (c_X11_rescue l G τ (x693) iτ ) (by decide) (by decide) rfl rfl rfl q3_202 q3_199 q3_200 q3_201 q1_1 (by decide +kernel) rfl (by decide) ⟨by show (250 + 8 * y3.toInt.toNat) + 0 ≤ 600000; omega, by show (5300 + 24 * y3.toInt.toNat) + 0 ≤ 7302250; omega⟩ rfl (Nat.le_of_ble_eq_true rfl) dL_law_761 ?_
          rintro _ τ694 ⟨x697, rfl, i695, f696, b698⟩
          have r701 : MA τ694 S I := mτ.fr iτ f696 (by decide) (by decide)
          have r702 : Rel τ694 := rτ.call f696 (by decide) (by decide)
          have r703 : RT τ694 := tτ.call f696 (by decide) (by decide)
          have r704 : CA τ694 S I := cτ.fr f696 (by decide) (by decide)
          show MW p l e _ s m _ below meth c _ 4 G (250 + 8 * y3.toInt.toNat) (5300 + 24 * y3.toInt.toNat) 764 [some (.ref b), some (.ref (G.1 0 0)), some (.ref (G.1 22 0)), some (.int y3)] [.int x697] τ694
          refine m_pop C dL_law_764 rfl ?_
          refine m_aload_n C dL_law_765 rfl rfl ?_
          refine m_aload_n C dL_law_766 rfl rfl ?_
          refine m_iload_n C dL_law_767 rfl rfl ?_
          refine m_iconst (v := 1) C dL_law_768 (by decide) ?_
          refine m_iadd C dL_law_769 ?_
          refine m_topi (fun x705 ex705 => ?_)
          have tx705 : x705.toInt = y3.toInt + 1 := by rw [ex705, ti_addv b8 kc_1 (by decide), kt_1]
          have b706 : IV x705 1 3067 := by rw [ex705]; exact iv_add b8 kc_1 (by decide)
          refine m_sld C hX hbl hbA ⟨by omega, by omega⟩ dL_law_770 ?_
          refine m_eqs (w := x693) (by rw [ex693, show x705.toInt.toNat = x691.toInt.toNat by omega]) ?_
          refine m_callV (n := 1) (ci := 11) (st := []) C (c_X12_rescueS l G τ694 (x693) i695 ) (by decide) (by decide) rfl rfl rfl q5_160 q5_157 q5_158 q5_159 q1_7 (by decide +kernel) rfl (by decide) ⟨by show (250 + 8 * y3.toInt.toNat) + 0 ≤ 600000; omega, by show (5300 + 24 * y3.toInt.toNat) + 0 ≤ 7302250; omega⟩ rfl (Nat.le_of_ble_eq_true rfl) dL_law_771 ?_
          rintro _ τ707 ⟨x710, rfl, i708, f709, b711, h713⟩
          have r714 : Rel τ707 := r702.call f709 (by decide) (by decide)
          have r715 : RT τ707 := r703.call f709 (by decide) (by decide)
          have r716 : CA τ707 S I := r704.fr f709 (by decide) (by decide)
          have r717 : MA τ707 S I := r701.sf i695 f709 h713 (by decide) (by decide)
          show MW p l e _ s m _ below meth c _ 4 G (250 + 8 * y3.toInt.toNat) (5300 + 24 * y3.toInt.toNat) 774 [some (.ref b), some (.ref (G.1 0 0)), some (.ref (G.1 22 0)), some (.int y3)] [.int x710] τ707
          refine m_pop C dL_law_774 rfl ?_
          refine m_goto (tgt := 1028) C dL_law_775 (by decide) ?_
          obtain ⟨x718, ex718⟩ : ∃ y : Int32, y = y3 + 6 := ⟨_, rfl⟩
          have tx718 : x718.toInt = y3.toInt + 6 := by rw [ex718, ti_addv b8 kc_6 (by decide), kt_6]
          have b719 : IV x718 6 3072 := by rw [ex718]; exact iv_add b8 kc_6 (by decide)
          refine m_iinc (v := x718) (L1 := [some (.ref b), some (.ref (G.1 0 0)), some (.ref (G.1 22 0)), some (.int x718)]) C dL_law_1028 rfl (by rw [ex718]; rfl) (by decide) rfl rfl ?_
          refine m_goto (tgt := 18) C dL_law_1031 (by decide) ?_
          refine m_widen (c2 := 250 + 8 * x718.toInt.toNat) (s2 := 5300 + 24 * x718.toInt.toNat) (by omega) (by omega) ?_
          exact ih18 τ707 x718 S I i708 r714 r715 r716 r717 (iv_wk b719 (by decide)) (by have q := hm18; omega)
        by_cases s720 : x11.toInt = 20
        · refine m_tableIn (tgt := 778) (off := 745) C dL_law_33 (by omega) (by omega) (by rw [s720]; rfl) (by decide) ?_
          have b721 : IV x11 20 20 := ⟨by omega, by omega⟩
          refine m_aload_n C dL_law_778 rfl rfl ?_
          refine m_callV (n := 0) (ci := 10) (st := []) C (c_X11_fallS l G τ  iτ ) (by decide) (by decide) rfl rfl rfl q3_220 q3_217 q3_218 q3_219 q1_1 (by decide +kernel) rfl (by decide) ⟨by show (250 + 8 * y3.toInt.toNat) + 0 ≤ 600000; omega, by show (5300 + 24 * y3.toInt.toNat) + 0 ≤ 7302250; omega⟩ rfl (Nat.le_of_ble_eq_true rfl) dL_law_779 ?_
          rintro _ τ722 ⟨x725, rfl, i723, f724, b726, h728⟩
          have r729 : MA τ722 S I := mτ.fr iτ f724 (by decide) (by decide)
          have r730 : Rel τ722 := rτ.call f724 (by decide) (by decide)
          have r731 : RT τ722 := tτ.call f724 (by decide) (by decide)
          have r732 : CA τ722 S I := cτ.sf f724 h728 (by decide) (by decide)
          show MW p l e _ s m _ below meth c _ 4 G (250 + 8 * y3.toInt.toNat) (5300 + 24 * y3.toInt.toNat) 782 [some (.ref b), some (.ref (G.1 0 0)), some (.ref (G.1 22 0)), some (.int y3)] [.int x725] τ722
          refine m_pop C dL_law_782 rfl ?_
          refine m_aload_n C dL_law_783 rfl rfl ?_
          refine m_callV (n := 0) (ci := 11) (st := []) C (c_X12_fallS l G τ722  i723 ) (by decide) (by decide) rfl rfl rfl q5_168 q5_165 q5_166 q5_167 q1_7 (by decide +kernel) rfl (by decide) ⟨by show (250 + 8 * y3.toInt.toNat) + 0 ≤ 600000; omega, by show (5300 + 24 * y3.toInt.toNat) + 0 ≤ 7302250; omega⟩ rfl (Nat.le_of_ble_eq_true rfl) dL_law_784 ?_
          rintro _ τ733 ⟨x736, rfl, i734, f735, b737, h739⟩
          have r740 : Rel τ733 := r730.call f735 (by decide) (by decide)
          have r741 : RT τ733 := r731.call f735 (by decide) (by decide)
          have r742 : CA τ733 S I := r732.fr f735 (by decide) (by decide)
          have r743 : MA τ733 S I := r729.sf i723 f735 h739 (by decide) (by decide)
          show MW p l e _ s m _ below meth c _ 4 G (250 + 8 * y3.toInt.toNat) (5300 + 24 * y3.toInt.toNat) 787 [some (.ref b), some (.ref (G.1 0 0)), some (.ref (G.1 22 0)), some (.int y3)] [.int x736] τ733
          refine m_pop C dL_law_787 rfl ?_
          refine m_goto (tgt := 1028) C dL_law_788 (by decide) ?_
          obtain ⟨x744, ex744⟩ : ∃ y : Int32, y = y3 + 6 := ⟨_, rfl⟩
          have tx744 : x744.toInt = y3.toInt + 6 := by rw [ex744, ti_addv b8 kc_6 (by decide), kt_6]
          have b745 : IV x744 6 3072 := by rw [ex744]; exact iv_add b8 kc_6 (by decide)
          refine m_iinc (v := x744) (L1 := [some (.ref b), some (.ref (G.1 0 0)), some (.ref (G.1 22 0)), some (.int x744)]) C dL_law_1028 rfl (by rw [ex744]; rfl) (by decide) rfl rfl ?_
          refine m_goto (tgt := 18) C dL_law_1031 (by decide) ?_
          refine m_widen (c2 := 250 + 8 * x744.toInt.toNat) (s2 := 5300 + 24 * x744.toInt.toNat) (by omega) (by omega) ?_
          exact ih18 τ733 x744 S I i734 r740 r741 r742 r743 (iv_wk b745 (by decide)) (by have q := hm18; omega)
        by_cases s746 : x11.toInt = 21
        · refine m_tableIn (tgt := 791) (off := 758) C dL_law_33 (by omega) (by omega) (by rw [s746]; rfl) (by decide) ?_
          have b747 : IV x11 21 21 := ⟨by omega, by omega⟩
          refine m_aload_n C dL_law_791 rfl rfl ?_
          refine m_aload_n C dL_law_792 rfl rfl ?_
          refine m_iload_n C dL_law_793 rfl rfl ?_
          refine m_iconst (v := 1) C dL_law_794 (by decide) ?_
          refine m_iadd C dL_law_795 ?_
          refine m_topi (fun x748 ex748 => ?_)
          have tx748 : x748.toInt = y3.toInt + 1 := by rw [ex748, ti_addv b8 kc_1 (by decide), kt_1]
          have b749 : IV x748 1 3067 := by rw [ex748]; exact iv_add b8 kc_1 (by decide)
          refine m_sld C hX hbl hbA ⟨by omega, by omega⟩ dL_law_796 ?_
          refine m_topi (fun x750 ex750 => ?_)
          refine m_aload_n C dL_law_797 rfl rfl ?_
          refine m_iload_n C dL_law_798 rfl rfl ?_
          refine m_iconst (v := 2) C dL_law_799 (by decide) ?_
          refine m_iadd C dL_law_800 ?_
          refine m_topi (fun x751 ex751 => ?_)
          have tx751 : x751.toInt = y3.toInt + 2 := by rw [ex751, ti_addv b8 kc_2 (by decide), kt_2]
          have b752 : IV x751 2 3068 := by rw [ex751]; exact iv_add b8 kc_2 (by decide)
          refine m_sld C hX hbl hbA ⟨by omega, by omega⟩ dL_law_801 ?_
          refine m_topi (fun x753 ex753 => ?_)
          refine m_aload_n C dL_law_802 rfl rfl ?_
          refine m_iload_n C dL_law_803 rfl rfl ?_
          refine m_iconst (v := 3) C dL_law_804 (by decide) ?_
          refine m_iadd C dL_law_805 ?_
          refine m_topi (fun x754 ex754 => ?_)
          have tx754 : x754.toInt = y3.toInt + 3 := by rw [ex754, ti_addv b8 kc_3 (by decide), kt_3]
          have b755 : IV x754 3 3069 := by rw [ex754]; exact iv_add b8 kc_3 (by decide)
          refine m_sld C hX hbl hbA ⟨by omega, by omega⟩ dL_law_806 ?_
          refine m_topi (fun x756 ex756 => ?_)
          refine m_callV (n := 3) (ci := 10) (st := []) C (c_X11_bells l G τ (x750) (x753) (x756) iτ ) (by decide) (by decide) rfl rfl rfl q3_224 q3_221 q3_222 q3_223 q1_1 (by decide +kernel) rfl (by decide) ⟨by show (250 + 8 * y3.toInt.toNat) + 0 ≤ 600000; omega, by show (5300 + 24 * y3.toInt.toNat) + 0 ≤ 7302250; omega⟩ rfl (Nat.le_of_ble_eq_true rfl) dL_law_807 ?_
          rintro _ τ757 ⟨x760, rfl, i758, f759, b761⟩
          have r764 : MA τ757 S I := mτ.fr iτ f759 (by decide) (by decide)
          have r765 : Rel τ757 := rτ.call f759 (by decide) (by decide)
          have r766 : RT τ757 := tτ.call f759 (by decide) (by decide)
          have r767 : CA τ757 S I := cτ.fr f759 (by decide) (by decide)
          show MW p l e _ s m _ below meth c _ 4 G (250 + 8 * y3.toInt.toNat) (5300 + 24 * y3.toInt.toNat) 810 [some (.ref b), some (.ref (G.1 0 0)), some (.ref (G.1 22 0)), some (.int y3)] [.int x760] τ757
          refine m_pop C dL_law_810 rfl ?_
          refine m_aload_n C dL_law_811 rfl rfl ?_
          refine m_aload_n C dL_law_812 rfl rfl ?_
          refine m_iload_n C dL_law_813 rfl rfl ?_
          refine m_iconst (v := 1) C dL_law_814 (by decide) ?_
          refine m_iadd C dL_law_815 ?_
          refine m_topi (fun x768 ex768 => ?_)
          have tx768 : x768.toInt = y3.toInt + 1 := by rw [ex768, ti_addv b8 kc_1 (by decide), kt_1]
          have b769 : IV x768 1 3067 := by rw [ex768]; exact iv_add b8 kc_1 (by decide)
          refine m_sld C hX hbl hbA ⟨by omega, by omega⟩ dL_law_816 ?_
          refine m_eqs (w := x750) (by rw [ex750, show x768.toInt.toNat = x748.toInt.toNat by omega]) ?_
          refine m_aload_n C dL_law_817 rfl rfl ?_
          refine m_iload_n C dL_law_818 rfl rfl ?_
          refine m_iconst (v := 2) C dL_law_819 (by decide) ?_
          refine m_iadd C dL_law_820 ?_
          refine m_topi (fun x770 ex770 => ?_)
          have tx770 : x770.toInt = y3.toInt + 2 := by rw [ex770, ti_addv b8 kc_2 (by decide), kt_2]
          have b771 : IV x770 2 3068 := by rw [ex770]; exact iv_add b8 kc_2 (by decide)
          refine m_sld C hX hbl hbA ⟨by omega, by omega⟩ dL_law_821 ?_
          refine m_eqs (w := x753) (by rw [ex753, show x770.toInt.toNat = x751.toInt.toNat by omega]) ?_
          refine m_aload_n C dL_law_822 rfl rfl ?_
          refine m_iload_n C dL_law_823 rfl rfl ?_
          refine m_iconst (v := 3) C dL_law_824 (by decide) ?_
          refine m_iadd C dL_law_825 ?_
          refine m_topi (fun x772 ex772 => ?_)
          have tx772 : x772.toInt = y3.toInt + 3 := by rw [ex772, ti_addv b8 kc_3 (by decide), kt_3]
          have b773 : IV x772 3 3069 := by rw [ex772]; exact iv_add b8 kc_3 (by decide)
          refine m_sld C hX hbl hbA ⟨by omega, by omega⟩ dL_law_826 ?_
          refine m_eqs (w := x756) (by rw [ex756, show x772.toInt.toNat = x754.toInt.toNat by omega]) ?_
          refine m_callV (n := 3) (ci := 11) (st := []) C (c_X12_bells l G τ757 (x750) (x753) (x756) i758 ) (by decide) (by decide) rfl rfl rfl q5_172 q5_169 q5_170 q5_171 q1_7 (by decide +kernel) rfl (by decide) ⟨by show (250 + 8 * y3.toInt.toNat) + 0 ≤ 600000; omega, by show (5300 + 24 * y3.toInt.toNat) + 0 ≤ 7302250; omega⟩ rfl (Nat.le_of_ble_eq_true rfl) dL_law_827 ?_
          rintro _ τ774 ⟨x777, rfl, i775, f776, b778⟩
          have r781 : Rel τ774 := r765.call f776 (by decide) (by decide)
          have r782 : RT τ774 := r766.call f776 (by decide) (by decide)
          have r783 : CA τ774 S I := r767.fr f776 (by decide) (by decide)
          have r784 : MA τ774 S I := r764.fr i758 f776 (by decide) (by decide)
          show MW p l e _ s m _ below meth c _ 4 G (250 + 8 * y3.toInt.toNat) (5300 + 24 * y3.toInt.toNat) 830 [some (.ref b), some (.ref (G.1 0 0)), some (.ref (G.1 22 0)), some (.int y3)] [.int x777] τ774
          refine m_pop C dL_law_830 rfl ?_
          refine m_goto (tgt := 1028) C dL_law_831 (by decide) ?_
          obtain ⟨x785, ex785⟩ : ∃ y : Int32, y = y3 + 6 := ⟨_, rfl⟩
          have tx785 : x785.toInt = y3.toInt + 6 := by rw [ex785, ti_addv b8 kc_6 (by decide), kt_6]
          have b786 : IV x785 6 3072 := by rw [ex785]; exact iv_add b8 kc_6 (by decide)
          refine m_iinc (v := x785) (L1 := [some (.ref b), some (.ref (G.1 0 0)), some (.ref (G.1 22 0)), some (.int x785)]) C dL_law_1028 rfl (by rw [ex785]; rfl) (by decide) rfl rfl ?_
          refine m_goto (tgt := 18) C dL_law_1031 (by decide) ?_
          refine m_widen (c2 := 250 + 8 * x785.toInt.toNat) (s2 := 5300 + 24 * x785.toInt.toNat) (by omega) (by omega) ?_
          exact ih18 τ774 x785 S I i775 r781 r782 r783 r784 (iv_wk b786 (by decide)) (by have q := hm18; omega)
        by_cases s787 : x11.toInt = 22
        · refine m_tableIn (tgt := 834) (off := 801) C dL_law_33 (by omega) (by omega) (by rw [s787]; rfl) (by decide) ?_
          have b788 : IV x11 22 22 := ⟨by omega, by omega⟩
          refine m_aload_n C dL_law_834 rfl rfl ?_
          refine m_aload_n C dL_law_835 rfl rfl ?_
          refine m_iload_n C dL_law_836 rfl rfl ?_
          refine m_iconst (v := 1) C dL_law_837 (by decide) ?_
          refine m_iadd C dL_law_838 ?_
          refine m_topi (fun x789 ex789 => ?_)
          have tx789 : x789.toInt = y3.toInt + 1 := by rw [ex789, ti_addv b8 kc_1 (by decide), kt_1]
          have b790 : IV x789 1 3067 := by rw [ex789]; exact iv_add b8 kc_1 (by decide)
          refine m_sld C hX hbl hbA ⟨by omega, by omega⟩ dL_law_839 ?_
          refine m_topi (fun x791 ex791 => ?_)
          refine m_callV (n := 1) (ci := 10) (st := []) C (c_X11_imageS l G τ S I (x791) iτ cτ) (by decide) (by decide) rfl rfl rfl q4_0 q3_237 q3_238 q3_239 q1_1 (by decide +kernel) rfl (by decide) ⟨by show (250 + 8 * y3.toInt.toNat) + 0 ≤ 600000; omega, by show (5300 + 24 * y3.toInt.toNat) + 0 ≤ 7302250; omega⟩ rfl (Nat.le_of_ble_eq_true rfl) dL_law_840 ?_
          rintro _ τ792 ⟨x795, rfl, i793, f794, b796, h798⟩
          have r799 : MA τ792 S I := mτ.fr iτ f794 (by decide) (by decide)
          have z800 := Hid.mk h798
          clear h798
          have r801 : Rel τ792 := rτ.call f794 (by decide) (by decide)
          have r802 : RT τ792 := tτ.call f794 (by decide) (by decide)
          show MW p l e _ s m _ below meth c _ 4 G (250 + 8 * y3.toInt.toNat) (5300 + 24 * y3.toInt.toNat) 843 [some (.ref b), some (.ref (G.1 0 0)), some (.ref (G.1 22 0)), some (.int y3)] [.int x795] τ792
          refine m_pop C dL_law_843 rfl ?_
          refine m_aload_n C dL_law_844 rfl rfl ?_
          refine m_aload_n C dL_law_845 rfl rfl ?_
          refine m_iload_n C dL_law_846 rfl rfl ?_
          refine m_iconst (v := 1) C dL_law_847 (by decide) ?_
          refine m_iadd C dL_law_848 ?_
          refine m_topi (fun x803 ex803 => ?_)
          have tx803 : x803.toInt = y3.toInt + 1 := by rw [ex803, ti_addv b8 kc_1 (by decide), kt_1]
          have b804 : IV x803 1 3067 := by rw [ex803]; exact iv_add b8 kc_1 (by decide)
          refine m_sld C hX hbl hbA ⟨by omega, by omega⟩ dL_law_849 ?_
          refine m_eqs (w := x791) (by rw [ex791, show x803.toInt.toNat = x789.toInt.toNat by omega]) ?_
          refine m_callV (n := 1) (ci := 11) (st := []) C (c_X12_imageS l G τ792 S I (x791) i793 r799) (by decide) (by decide) rfl rfl rfl q5_178 q5_175 q5_176 q5_177 q1_7 (by decide +kernel) rfl (by decide) ⟨by show (250 + 8 * y3.toInt.toNat) + 0 ≤ 600000; omega, by show (5300 + 24 * y3.toInt.toNat) + 0 ≤ 7302250; omega⟩ rfl (Nat.le_of_ble_eq_true rfl) dL_law_850 ?_
          rintro _ τ805 ⟨x808, rfl, i806, f807, b809, h811⟩
          have r813 : Rel τ805 := r801.call f807 (by decide) (by decide)
          have r814 : RT τ805 := r802.call f807 (by decide) (by decide)
          obtain ⟨S815, h816, h817, q818⟩ := RS.imageB f807 z800 h811
          clear h811 z800
          show MW p l e _ s m _ below meth c _ 4 G (250 + 8 * y3.toInt.toNat) (5300 + 24 * y3.toInt.toNat) 853 [some (.ref b), some (.ref (G.1 0 0)), some (.ref (G.1 22 0)), some (.int y3)] [.int x808] τ805
          refine m_pop C dL_law_853 rfl ?_
          refine m_goto (tgt := 1028) C dL_law_854 (by decide) ?_
          obtain ⟨x819, ex819⟩ : ∃ y : Int32, y = y3 + 6 := ⟨_, rfl⟩
          have tx819 : x819.toInt = y3.toInt + 6 := by rw [ex819, ti_addv b8 kc_6 (by decide), kt_6]
          have b820 : IV x819 6 3072 := by rw [ex819]; exact iv_add b8 kc_6 (by decide)
          refine m_iinc (v := x819) (L1 := [some (.ref b), some (.ref (G.1 0 0)), some (.ref (G.1 22 0)), some (.int x819)]) C dL_law_1028 rfl (by rw [ex819]; rfl) (by decide) rfl rfl ?_
          refine m_goto (tgt := 18) C dL_law_1031 (by decide) ?_
          refine m_widen (c2 := 250 + 8 * x819.toInt.toNat) (s2 := 5300 + 24 * x819.toInt.toNat) (by omega) (by omega) ?_
          exact ih18 τ805 x819 S S815 i806 r813 r814 h816 h817 (iv_wk b820 (by decide)) (by have q := hm18; omega)
        by_cases s821 : x11.toInt = 23
        · refine m_tableIn (tgt := 857) (off := 824) C dL_law_33 (by omega) (by omega) (by rw [s821]; rfl) (by decide) ?_
          have b822 : IV x11 23 23 := ⟨by omega, by omega⟩
          refine m_aload_n C dL_law_857 rfl rfl ?_
          refine m_aload_n C dL_law_858 rfl rfl ?_
          refine m_iload_n C dL_law_859 rfl rfl ?_
          refine m_iconst (v := 1) C dL_law_860 (by decide) ?_
          refine m_iadd C dL_law_861 ?_
          refine m_topi (fun x823 ex823 => ?_)
          have tx823 : x823.toInt = y3.toInt + 1 := by rw [ex823, ti_addv b8 kc_1 (by decide), kt_1]
          have b824 : IV x823 1 3067 := by rw [ex823]; exact iv_add b8 kc_1 (by decide)
          refine m_sld C hX hbl hbA ⟨by omega, by omega⟩ dL_law_862 ?_
          refine m_topi (fun x825 ex825 => ?_)
          refine m_callV (n := 1) (ci := 10) (st := []) C (c_X11_restoreS l G τ S I (x825) iτ cτ) (by decide) (by decide) rfl rfl rfl q4_4 q4_1 q4_2 q4_3 q1_1 (by decide +kernel) rfl (by decide) ⟨by show (250 + 8 * y3.toInt.toNat) + 0 ≤ 600000; omega, by show (5300 + 24 * y3.toInt.toNat) + 0 ≤ 7302250; omega⟩ rfl (Nat.le_of_ble_eq_true rfl) dL_law_863 ?_
          rintro _ τ826 ⟨x829, rfl, i827, f828, b830, h832⟩
          have r833 : MA τ826 S I := mτ.fr iτ f828 (by decide) (by decide)
          have z834 := Hid.mk h832
          clear h832
          have r835 : Rel τ826 := rτ.call f828 (by decide) (by decide)
          have r836 : RT τ826 := tτ.call f828 (by decide) (by decide)
          show MW p l e _ s m _ below meth c _ 4 G (250 + 8 * y3.toInt.toNat) (5300 + 24 * y3.toInt.toNat) 866 [some (.ref b), some (.ref (G.1 0 0)), some (.ref (G.1 22 0)), some (.int y3)] [.int x829] τ826
          refine m_pop C dL_law_866 rfl ?_
          refine m_aload_n C dL_law_867 rfl rfl ?_
          refine m_aload_n C dL_law_868 rfl rfl ?_
          refine m_iload_n C dL_law_869 rfl rfl ?_
          refine m_iconst (v := 1) C dL_law_870 (by decide) ?_
          refine m_iadd C dL_law_871 ?_
          refine m_topi (fun x837 ex837 => ?_)
          have tx837 : x837.toInt = y3.toInt + 1 := by rw [ex837, ti_addv b8 kc_1 (by decide), kt_1]
          have b838 : IV x837 1 3067 := by rw [ex837]; exact iv_add b8 kc_1 (by decide)
          refine m_sld C hX hbl hbA ⟨by omega, by omega⟩ dL_law_872 ?_
          refine m_eqs (w := x825) (by rw [ex825, show x837.toInt.toNat = x823.toInt.toNat by omega]) ?_
          refine m_callV (n := 1) (ci := 11) (st := []) C (c_X12_restoreS l G τ826 S I (x825) i827 r833) (by decide) (by decide) rfl rfl rfl q5_182 q5_179 q5_180 q5_181 q1_7 (by decide +kernel) rfl (by decide) ⟨by show (250 + 8 * y3.toInt.toNat) + 0 ≤ 600000; omega, by show (5300 + 24 * y3.toInt.toNat) + 0 ≤ 7302250; omega⟩ rfl (Nat.le_of_ble_eq_true rfl) dL_law_873 ?_
          rintro _ τ839 ⟨x842, rfl, i840, f841, b843, h845⟩
          have r847 : Rel τ839 := r835.call f841 (by decide) (by decide)
          have r848 : RT τ839 := r836.call f841 (by decide) (by decide)
          obtain ⟨S849, h850, h851, q852⟩ := RS.restoreB f841 z834 h845
          clear h845 z834
          show MW p l e _ s m _ below meth c _ 4 G (250 + 8 * y3.toInt.toNat) (5300 + 24 * y3.toInt.toNat) 876 [some (.ref b), some (.ref (G.1 0 0)), some (.ref (G.1 22 0)), some (.int y3)] [.int x842] τ839
          refine m_pop C dL_law_876 rfl ?_
          refine m_goto (tgt := 1028) C dL_law_877 (by decide) ?_
          obtain ⟨x853, ex853⟩ : ∃ y : Int32, y = y3 + 6 := ⟨_, rfl⟩
          have tx853 : x853.toInt = y3.toInt + 6 := by rw [ex853, ti_addv b8 kc_6 (by decide), kt_6]
          have b854 : IV x853 6 3072 := by rw [ex853]; exact iv_add b8 kc_6 (by decide)
          refine m_iinc (v := x853) (L1 := [some (.ref b), some (.ref (G.1 0 0)), some (.ref (G.1 22 0)), some (.int x853)]) C dL_law_1028 rfl (by rw [ex853]; rfl) (by decide) rfl rfl ?_
          refine m_goto (tgt := 18) C dL_law_1031 (by decide) ?_
          refine m_widen (c2 := 250 + 8 * x853.toInt.toNat) (s2 := 5300 + 24 * x853.toInt.toNat) (by omega) (by omega) ?_
          exact ih18 τ839 x853 S849 I i840 r847 r848 h850 h851 (iv_wk b854 (by decide)) (by have q := hm18; omega)
        by_cases s855 : x11.toInt = 24
        · refine m_tableIn (tgt := 880) (off := 847) C dL_law_33 (by omega) (by omega) (by rw [s855]; rfl) (by decide) ?_
          have b856 : IV x11 24 24 := ⟨by omega, by omega⟩
          refine m_aload_n C dL_law_880 rfl rfl ?_
          refine m_aload_n C dL_law_881 rfl rfl ?_
          refine m_iload_n C dL_law_882 rfl rfl ?_
          refine m_iconst (v := 1) C dL_law_883 (by decide) ?_
          refine m_iadd C dL_law_884 ?_
          refine m_topi (fun x857 ex857 => ?_)
          have tx857 : x857.toInt = y3.toInt + 1 := by rw [ex857, ti_addv b8 kc_1 (by decide), kt_1]
          have b858 : IV x857 1 3067 := by rw [ex857]; exact iv_add b8 kc_1 (by decide)
          refine m_sld C hX hbl hbA ⟨by omega, by omega⟩ dL_law_885 ?_
          refine m_topi (fun x859 ex859 => ?_)
          refine m_callV (n := 1) (ci := 10) (st := []) C (c_X11_kindS l G τ S I (x859) iτ cτ) (by decide) (by decide) rfl rfl rfl q4_8 q4_5 q4_6 q4_7 q1_1 (by decide +kernel) rfl (by decide) ⟨by show (250 + 8 * y3.toInt.toNat) + 0 ≤ 600000; omega, by show (5300 + 24 * y3.toInt.toNat) + 0 ≤ 7302250; omega⟩ rfl (Nat.le_of_ble_eq_true rfl) dL_law_886 ?_
          rintro _ τ860 ⟨x863, rfl, i861, f862, b864, h866⟩
          have r867 : MA τ860 S I := mτ.fr iτ f862 (by decide) (by decide)
          have z868 := Hid.mk h866
          clear h866
          have r869 : Rel τ860 := rτ.call f862 (by decide) (by decide)
          have r870 : RT τ860 := tτ.call f862 (by decide) (by decide)
          have r871 : CA τ860 S I := cτ.fr f862 (by decide) (by decide)
          show MW p l e _ s m _ below meth c _ 4 G (250 + 8 * y3.toInt.toNat) (5300 + 24 * y3.toInt.toNat) 889 [some (.ref b), some (.ref (G.1 0 0)), some (.ref (G.1 22 0)), some (.int y3)] [.int x863] τ860
          refine m_pop C dL_law_889 rfl ?_
          refine m_aload_n C dL_law_890 rfl rfl ?_
          refine m_aload_n C dL_law_891 rfl rfl ?_
          refine m_iload_n C dL_law_892 rfl rfl ?_
          refine m_iconst (v := 1) C dL_law_893 (by decide) ?_
          refine m_iadd C dL_law_894 ?_
          refine m_topi (fun x872 ex872 => ?_)
          have tx872 : x872.toInt = y3.toInt + 1 := by rw [ex872, ti_addv b8 kc_1 (by decide), kt_1]
          have b873 : IV x872 1 3067 := by rw [ex872]; exact iv_add b8 kc_1 (by decide)
          refine m_sld C hX hbl hbA ⟨by omega, by omega⟩ dL_law_895 ?_
          refine m_eqs (w := x859) (by rw [ex859, show x872.toInt.toNat = x857.toInt.toNat by omega]) ?_
          refine m_callV (n := 1) (ci := 11) (st := []) C (c_X12_kindS l G τ860 S I (x859) i861 r867) (by decide) (by decide) rfl rfl rfl q5_186 q5_183 q5_184 q5_185 q1_7 (by decide +kernel) rfl (by decide) ⟨by show (250 + 8 * y3.toInt.toNat) + 0 ≤ 600000; omega, by show (5300 + 24 * y3.toInt.toNat) + 0 ≤ 7302250; omega⟩ rfl (Nat.le_of_ble_eq_true rfl) dL_law_896 ?_
          rintro _ τ874 ⟨x877, rfl, i875, f876, b878, h880⟩
          have r882 : Rel τ874 := r869.call f876 (by decide) (by decide)
          have r883 : RT τ874 := r870.call f876 (by decide) (by decide)
          have g881 := RS.kindB z868 h880
          have r884 : CA τ874 S I := r871.fr f876 (by decide) (by decide)
          have r885 : MA τ874 S I := r867.fr i861 f876 (by decide) (by decide)
          clear h880 z868
          show MW p l e _ s m _ below meth c _ 4 G (250 + 8 * y3.toInt.toNat) (5300 + 24 * y3.toInt.toNat) 899 [some (.ref b), some (.ref (G.1 0 0)), some (.ref (G.1 22 0)), some (.int y3)] [.int x877] τ874
          refine m_pop C dL_law_899 rfl ?_
          refine m_goto (tgt := 1028) C dL_law_900 (by decide) ?_
          obtain ⟨x886, ex886⟩ : ∃ y : Int32, y = y3 + 6 := ⟨_, rfl⟩
          have tx886 : x886.toInt = y3.toInt + 6 := by rw [ex886, ti_addv b8 kc_6 (by decide), kt_6]
          have b887 : IV x886 6 3072 := by rw [ex886]; exact iv_add b8 kc_6 (by decide)
          refine m_iinc (v := x886) (L1 := [some (.ref b), some (.ref (G.1 0 0)), some (.ref (G.1 22 0)), some (.int x886)]) C dL_law_1028 rfl (by rw [ex886]; rfl) (by decide) rfl rfl ?_
          refine m_goto (tgt := 18) C dL_law_1031 (by decide) ?_
          refine m_widen (c2 := 250 + 8 * x886.toInt.toNat) (s2 := 5300 + 24 * x886.toInt.toNat) (by omega) (by omega) ?_
          exact ih18 τ874 x886 S I i875 r882 r883 r884 r885 (iv_wk b887 (by decide)) (by have q := hm18; omega)
        by_cases s888 : x11.toInt = 25
        · refine m_tableIn (tgt := 903) (off := 870) C dL_law_33 (by omega) (by omega) (by rw [s888]; rfl) (by decide) ?_
          have b889 : IV x11 25 25 := ⟨by omega, by omega⟩
          refine m_aload_n C dL_law_903 rfl rfl ?_
          refine m_aload_n C dL_law_904 rfl rfl ?_
          refine m_iload_n C dL_law_905 rfl rfl ?_
          refine m_iconst (v := 1) C dL_law_906 (by decide) ?_
          refine m_iadd C dL_law_907 ?_
          refine m_topi (fun x890 ex890 => ?_)
          have tx890 : x890.toInt = y3.toInt + 1 := by rw [ex890, ti_addv b8 kc_1 (by decide), kt_1]
          have b891 : IV x890 1 3067 := by rw [ex890]; exact iv_add b8 kc_1 (by decide)
          refine m_sld C hX hbl hbA ⟨by omega, by omega⟩ dL_law_908 ?_
          refine m_topi (fun x892 ex892 => ?_)
          refine m_aload_n C dL_law_909 rfl rfl ?_
          refine m_iload_n C dL_law_910 rfl rfl ?_
          refine m_iconst (v := 2) C dL_law_911 (by decide) ?_
          refine m_iadd C dL_law_912 ?_
          refine m_topi (fun x893 ex893 => ?_)
          have tx893 : x893.toInt = y3.toInt + 2 := by rw [ex893, ti_addv b8 kc_2 (by decide), kt_2]
          have b894 : IV x893 2 3068 := by rw [ex893]; exact iv_add b8 kc_2 (by decide)
          refine m_sld C hX hbl hbA ⟨by omega, by omega⟩ dL_law_913 ?_
          refine m_topi (fun x895 ex895 => ?_)
          refine m_callV (n := 2) (ci := 10) (st := []) C (c_X11_asS l G τ S I (x892) (x895) iτ cτ) (by decide) (by decide) rfl rfl rfl q4_30 q4_27 q4_28 q4_29 q1_1 (by decide +kernel) rfl (by decide) ⟨by show (250 + 8 * y3.toInt.toNat) + 0 ≤ 600000; omega, by show (5300 + 24 * y3.toInt.toNat) + 0 ≤ 7302250; omega⟩ rfl (Nat.le_of_ble_eq_true rfl) dL_law_914 ?_
          rintro _ τ896 ⟨x899, rfl, i897, f898, b900, h902⟩
          have r903 : MA τ896 S I := mτ.fr iτ f898 (by decide) (by decide)
          have z904 := Hid.mk h902
          clear h902
          have r905 : Rel τ896 := rτ.call f898 (by decide) (by decide)
          have r906 : RT τ896 := tτ.call f898 (by decide) (by decide)
          have r907 : CA τ896 S I := cτ.fr f898 (by decide) (by decide)
          show MW p l e _ s m _ below meth c _ 4 G (250 + 8 * y3.toInt.toNat) (5300 + 24 * y3.toInt.toNat) 917 [some (.ref b), some (.ref (G.1 0 0)), some (.ref (G.1 22 0)), some (.int y3)] [.int x899] τ896
          refine m_aload_n C dL_law_917 rfl rfl ?_
          refine m_aload_n C dL_law_918 rfl rfl ?_
          refine m_iload_n C dL_law_919 rfl rfl ?_
          refine m_iconst (v := 1) C dL_law_920 (by decide) ?_
          refine m_iadd C dL_law_921 ?_
          refine m_topi (fun x908 ex908 => ?_)
          have tx908 : x908.toInt = y3.toInt + 1 := by rw [ex908, ti_addv b8 kc_1 (by decide), kt_1]
          have b909 : IV x908 1 3067 := by rw [ex908]; exact iv_add b8 kc_1 (by decide)
          refine m_sld C hX hbl hbA ⟨by omega, by omega⟩ dL_law_922 ?_
          refine m_eqs (w := x892) (by rw [ex892, show x908.toInt.toNat = x890.toInt.toNat by omega]) ?_
          refine m_aload_n C dL_law_923 rfl rfl ?_
          refine m_iload_n C dL_law_924 rfl rfl ?_
          refine m_iconst (v := 2) C dL_law_925 (by decide) ?_
          refine m_iadd C dL_law_926 ?_
          refine m_topi (fun x910 ex910 => ?_)
          have tx910 : x910.toInt = y3.toInt + 2 := by rw [ex910, ti_addv b8 kc_2 (by decide), kt_2]
          have b911 : IV x910 2 3068 := by rw [ex910]; exact iv_add b8 kc_2 (by decide)
          refine m_sld C hX hbl hbA ⟨by omega, by omega⟩ dL_law_927 ?_
          refine m_eqs (w := x895) (by rw [ex895, show x910.toInt.toNat = x893.toInt.toNat by omega]) ?_
          refine m_callV (n := 2) (ci := 11) (st := [.int x899]) C (c_X12_asS l G τ896 S I (x892) (x895) i897 r903) (by decide) (by decide) rfl rfl rfl q5_190 q5_187 q5_188 q5_189 q1_7 (by decide +kernel) rfl (by decide) ⟨by show (250 + 8 * y3.toInt.toNat) + 0 ≤ 600000; omega, by show (5300 + 24 * y3.toInt.toNat) + 0 ≤ 7302250; omega⟩ rfl (Nat.le_of_ble_eq_true rfl) dL_law_928 ?_
          rintro _ τ912 ⟨x915, rfl, i913, f914, b916, h918⟩
          have r920 : Rel τ912 := r905.call f914 (by decide) (by decide)
          have r921 : RT τ912 := r906.call f914 (by decide) (by decide)
          have g919 := RS.asB z904 h918
          have r922 : CA τ912 S I := r907.fr f914 (by decide) (by decide)
          have r923 : MA τ912 S I := r903.fr i897 f914 (by decide) (by decide)
          clear h918 z904
          show MW p l e _ s m _ below meth c _ 4 G (250 + 8 * y3.toInt.toNat) (5300 + 24 * y3.toInt.toNat) 931 [some (.ref b), some (.ref (G.1 0 0)), some (.ref (G.1 22 0)), some (.int y3)] [.int x915, .int x899] τ912
          refine m_icmp_eq (tgt := 1028) C dL_law_931 (by decide) (fun c924 => ?_) (fun c924 => ?_)
          · have f925 : x899.toInt = x915.toInt := by
              have q : _ := c924
              simp only [ti_nle, ti_nlt, ti_le, ti_lt, ti_eq, ti_ne, Classical.not_not] at q
              omega
            obtain ⟨x926, ex926⟩ : ∃ y : Int32, y = y3 + 6 := ⟨_, rfl⟩
            have tx926 : x926.toInt = y3.toInt + 6 := by rw [ex926, ti_addv b8 kc_6 (by decide), kt_6]
            have b927 : IV x926 6 3072 := by rw [ex926]; exact iv_add b8 kc_6 (by decide)
            refine m_iinc (v := x926) (L1 := [some (.ref b), some (.ref (G.1 0 0)), some (.ref (G.1 22 0)), some (.int x926)]) C dL_law_1028 rfl (by rw [ex926]; rfl) (by decide) rfl rfl ?_
            refine m_goto (tgt := 18) C dL_law_1031 (by decide) ?_
            refine m_widen (c2 := 250 + 8 * x926.toInt.toNat) (s2 := 5300 + 24 * x926.toInt.toNat) (by omega) (by omega) ?_
            exact ih18 τ912 x926 S I i913 r920 r921 r922 r923 (iv_wk b927 (by decide)) (by have q := hm18; omega)
          · have f928 : x899.toInt ≠ x915.toInt := by
              have q : _ := c924
              simp only [ti_nle, ti_nlt, ti_le, ti_lt, ti_eq, ti_ne, Classical.not_not] at q
              omega
            exfalso
            omega
        by_cases s929 : x11.toInt = 26
        · refine m_tableIn (tgt := 936) (off := 903) C dL_law_33 (by omega) (by omega) (by rw [s929]; rfl) (by decide) ?_
          have b930 : IV x11 26 26 := ⟨by omega, by omega⟩
          refine m_aload_n C dL_law_936 rfl rfl ?_
          refine m_aload_n C dL_law_937 rfl rfl ?_
          refine m_iload_n C dL_law_938 rfl rfl ?_
          refine m_iconst (v := 1) C dL_law_939 (by decide) ?_
          refine m_iadd C dL_law_940 ?_
          refine m_topi (fun x931 ex931 => ?_)
          have tx931 : x931.toInt = y3.toInt + 1 := by rw [ex931, ti_addv b8 kc_1 (by decide), kt_1]
          have b932 : IV x931 1 3067 := by rw [ex931]; exact iv_add b8 kc_1 (by decide)
          refine m_sld C hX hbl hbA ⟨by omega, by omega⟩ dL_law_941 ?_
          refine m_topi (fun x933 ex933 => ?_)
          refine m_aload_n C dL_law_942 rfl rfl ?_
          refine m_iload_n C dL_law_943 rfl rfl ?_
          refine m_iconst (v := 2) C dL_law_944 (by decide) ?_
          refine m_iadd C dL_law_945 ?_
          refine m_topi (fun x934 ex934 => ?_)
          have tx934 : x934.toInt = y3.toInt + 2 := by rw [ex934, ti_addv b8 kc_2 (by decide), kt_2]
          have b935 : IV x934 2 3068 := by rw [ex934]; exact iv_add b8 kc_2 (by decide)
          refine m_sld C hX hbl hbA ⟨by omega, by omega⟩ dL_law_946 ?_
          refine m_topi (fun x936 ex936 => ?_)
          refine m_callV (n := 2) (ci := 10) (st := []) C (c_X11_ask l G τ (x933) (x936) iτ ) (by decide) (by decide) rfl rfl rfl q4_42 q4_39 q4_40 q4_41 q1_1 (by decide +kernel) rfl (by decide) ⟨by show (250 + 8 * y3.toInt.toNat) + 0 ≤ 600000; omega, by show (5300 + 24 * y3.toInt.toNat) + 0 ≤ 7302250; omega⟩ rfl (Nat.le_of_ble_eq_true rfl) dL_law_947 ?_
          rintro _ τ937 ⟨x940, rfl, i938, f939, b941⟩
          have r944 : MA τ937 S I := mτ.fr iτ f939 (by decide) (by decide)
          have r945 : Rel τ937 := rτ.call f939 (by decide) (by decide)
          have r946 : RT τ937 := tτ.call f939 (by decide) (by decide)
          have r947 : CA τ937 S I := cτ.fr f939 (by decide) (by decide)
          show MW p l e _ s m _ below meth c _ 4 G (250 + 8 * y3.toInt.toNat) (5300 + 24 * y3.toInt.toNat) 950 [some (.ref b), some (.ref (G.1 0 0)), some (.ref (G.1 22 0)), some (.int y3)] [.int x940] τ937
          refine m_pop C dL_law_950 rfl ?_
          refine m_aload_n C dL_law_951 rfl rfl ?_
          refine m_aload_n C dL_law_952 rfl rfl ?_
          refine m_iload_n C dL_law_953 rfl rfl ?_
          refine m_iconst (v := 1) C dL_law_954 (by decide) ?_
          refine m_iadd C dL_law_955 ?_
          refine m_topi (fun x948 ex948 => ?_)
          have tx948 : x948.toInt = y3.toInt + 1 := by rw [ex948, ti_addv b8 kc_1 (by decide), kt_1]
          have b949 : IV x948 1 3067 := by rw [ex948]; exact iv_add b8 kc_1 (by decide)
          refine m_sld C hX hbl hbA ⟨by omega, by omega⟩ dL_law_956 ?_
          refine m_eqs (w := x933) (by rw [ex933, show x948.toInt.toNat = x931.toInt.toNat by omega]) ?_
          refine m_aload_n C dL_law_957 rfl rfl ?_
          refine m_iload_n C dL_law_958 rfl rfl ?_
          refine m_iconst (v := 2) C dL_law_959 (by decide) ?_
          refine m_iadd C dL_law_960 ?_
          refine m_topi (fun x950 ex950 => ?_)
          have tx950 : x950.toInt = y3.toInt + 2 := by rw [ex950, ti_addv b8 kc_2 (by decide), kt_2]
          have b951 : IV x950 2 3068 := by rw [ex950]; exact iv_add b8 kc_2 (by decide)
          refine m_sld C hX hbl hbA ⟨by omega, by omega⟩ dL_law_961 ?_
          refine m_eqs (w := x936) (by rw [ex936, show x950.toInt.toNat = x934.toInt.toNat by omega]) ?_
          refine m_callV (n := 2) (ci := 11) (st := []) C (c_X12_ask l G τ937 (x933) (x936) i938 ) (by decide) (by decide) rfl rfl rfl q5_197 q5_194 q5_195 q5_196 q1_7 (by decide +kernel) rfl (by decide) ⟨by show (250 + 8 * y3.toInt.toNat) + 0 ≤ 600000; omega, by show (5300 + 24 * y3.toInt.toNat) + 0 ≤ 7302250; omega⟩ rfl (Nat.le_of_ble_eq_true rfl) dL_law_962 ?_
          rintro _ τ952 ⟨x955, rfl, i953, f954, b956⟩
          have r959 : Rel τ952 := r945.call f954 (by decide) (by decide)
          have r960 : RT τ952 := r946.call f954 (by decide) (by decide)
          have r961 : CA τ952 S I := r947.fr f954 (by decide) (by decide)
          have r962 : MA τ952 S I := r944.fr i938 f954 (by decide) (by decide)
          show MW p l e _ s m _ below meth c _ 4 G (250 + 8 * y3.toInt.toNat) (5300 + 24 * y3.toInt.toNat) 965 [some (.ref b), some (.ref (G.1 0 0)), some (.ref (G.1 22 0)), some (.int y3)] [.int x955] τ952
          refine m_pop C dL_law_965 rfl ?_
          refine m_goto (tgt := 1028) C dL_law_966 (by decide) ?_
          obtain ⟨x963, ex963⟩ : ∃ y : Int32, y = y3 + 6 := ⟨_, rfl⟩
          have tx963 : x963.toInt = y3.toInt + 6 := by rw [ex963, ti_addv b8 kc_6 (by decide), kt_6]
          have b964 : IV x963 6 3072 := by rw [ex963]; exact iv_add b8 kc_6 (by decide)
          refine m_iinc (v := x963) (L1 := [some (.ref b), some (.ref (G.1 0 0)), some (.ref (G.1 22 0)), some (.int x963)]) C dL_law_1028 rfl (by rw [ex963]; rfl) (by decide) rfl rfl ?_
          refine m_goto (tgt := 18) C dL_law_1031 (by decide) ?_
          refine m_widen (c2 := 250 + 8 * x963.toInt.toNat) (s2 := 5300 + 24 * x963.toInt.toNat) (by omega) (by omega) ?_
          exact ih18 τ952 x963 S I i953 r959 r960 r961 r962 (iv_wk b964 (by decide)) (by have q := hm18; omega)
        by_cases s965 : x11.toInt = 27
        · refine m_tableIn (tgt := 969) (off := 936) C dL_law_33 (by omega) (by omega) (by rw [s965]; rfl) (by decide) ?_
          have b966 : IV x11 27 27 := ⟨by omega, by omega⟩
          refine m_aload_n C dL_law_969 rfl rfl ?_
          refine m_aload_n C dL_law_970 rfl rfl ?_
          refine m_iload_n C dL_law_971 rfl rfl ?_
          refine m_iconst (v := 1) C dL_law_972 (by decide) ?_
          refine m_iadd C dL_law_973 ?_
          refine m_topi (fun x967 ex967 => ?_)
          have tx967 : x967.toInt = y3.toInt + 1 := by rw [ex967, ti_addv b8 kc_1 (by decide), kt_1]
          have b968 : IV x967 1 3067 := by rw [ex967]; exact iv_add b8 kc_1 (by decide)
          refine m_sld C hX hbl hbA ⟨by omega, by omega⟩ dL_law_974 ?_
          refine m_topi (fun x969 ex969 => ?_)
          refine m_callV (n := 1) (ci := 10) (st := []) C (c_X11_trace l G τ (x969) iτ ) (by decide) (by decide) rfl rfl rfl q4_97 q4_94 q4_95 q4_96 q1_1 (by decide +kernel) rfl (by decide) ⟨by show (250 + 8 * y3.toInt.toNat) + 0 ≤ 600000; omega, by show (5300 + 24 * y3.toInt.toNat) + 0 ≤ 7302250; omega⟩ rfl (Nat.le_of_ble_eq_true rfl) dL_law_975 ?_
          rintro _ τ970 ⟨x973, rfl, i971, f972, b974⟩
          have r977 : MA τ970 S I := mτ.fr iτ f972 (by decide) (by decide)
          have r978 : Rel τ970 := rτ.call f972 (by decide) (by decide)
          have r979 : RT τ970 := tτ.call f972 (by decide) (by decide)
          have r980 : CA τ970 S I := cτ.fr f972 (by decide) (by decide)
          show MW p l e _ s m _ below meth c _ 4 G (250 + 8 * y3.toInt.toNat) (5300 + 24 * y3.toInt.toNat) 978 [some (.ref b), some (.ref (G.1 0 0)), some (.ref (G.1 22 0)), some (.int y3)] [.int x973] τ970
          refine m_pop C dL_law_978 rfl ?_
          refine m_aload_n C dL_law_979 rfl rfl ?_
          refine m_aload_n C dL_law_980 rfl rfl ?_
          refine m_iload_n C dL_law_981 rfl rfl ?_
          refine m_iconst (v := 1) C dL_law_982 (by decide) ?_
          refine m_iadd C dL_law_983 ?_
          refine m_topi (fun x981 ex981 => ?_)
          have tx981 : x981.toInt = y3.toInt + 1 := by rw [ex981, ti_addv b8 kc_1 (by decide), kt_1]
          have b982 : IV x981 1 3067 := by rw [ex981]; exact iv_add b8 kc_1 (by decide)
          refine m_sld C hX hbl hbA ⟨by omega, by omega⟩ dL_law_984 ?_
          refine m_eqs (w := x969) (by rw [ex969, show x981.toInt.toNat = x967.toInt.toNat by omega]) ?_
          refine m_callV (n := 1) (ci := 11) (st := []) C (c_X12_trace l G τ970 (x969) i971 ) (by decide) (by decide) rfl rfl rfl q5_213 q5_210 q5_211 q5_212 q1_7 (by decide +kernel) rfl (by decide) ⟨by show (250 + 8 * y3.toInt.toNat) + 0 ≤ 600000; omega, by show (5300 + 24 * y3.toInt.toNat) + 0 ≤ 7302250; omega⟩ rfl (Nat.le_of_ble_eq_true rfl) dL_law_985 ?_
          rintro _ τ983 ⟨x986, rfl, i984, f985, b987⟩
          have r990 : Rel τ983 := r978.call f985 (by decide) (by decide)
          have r991 : RT τ983 := r979.call f985 (by decide) (by decide)
          have r992 : CA τ983 S I := r980.fr f985 (by decide) (by decide)
          have r993 : MA τ983 S I := r977.fr i971 f985 (by decide) (by decide)
          show MW p l e _ s m _ below meth c _ 4 G (250 + 8 * y3.toInt.toNat) (5300 + 24 * y3.toInt.toNat) 988 [some (.ref b), some (.ref (G.1 0 0)), some (.ref (G.1 22 0)), some (.int y3)] [.int x986] τ983
          refine m_pop C dL_law_988 rfl ?_
          refine m_goto (tgt := 1028) C dL_law_989 (by decide) ?_
          obtain ⟨x994, ex994⟩ : ∃ y : Int32, y = y3 + 6 := ⟨_, rfl⟩
          have tx994 : x994.toInt = y3.toInt + 6 := by rw [ex994, ti_addv b8 kc_6 (by decide), kt_6]
          have b995 : IV x994 6 3072 := by rw [ex994]; exact iv_add b8 kc_6 (by decide)
          refine m_iinc (v := x994) (L1 := [some (.ref b), some (.ref (G.1 0 0)), some (.ref (G.1 22 0)), some (.int x994)]) C dL_law_1028 rfl (by rw [ex994]; rfl) (by decide) rfl rfl ?_
          refine m_goto (tgt := 18) C dL_law_1031 (by decide) ?_
          refine m_widen (c2 := 250 + 8 * x994.toInt.toNat) (s2 := 5300 + 24 * x994.toInt.toNat) (by omega) (by omega) ?_
          exact ih18 τ983 x994 S I i984 r990 r991 r992 r993 (iv_wk b995 (by decide)) (by have q := hm18; omega)
        by_cases s996 : x11.toInt = 28
        · refine m_tableIn (tgt := 992) (off := 959) C dL_law_33 (by omega) (by omega) (by rw [s996]; rfl) (by decide) ?_
          have b997 : IV x11 28 28 := ⟨by omega, by omega⟩
          refine m_aload_n C dL_law_992 rfl rfl ?_
          refine m_aload_n C dL_law_993 rfl rfl ?_
          refine m_iload_n C dL_law_994 rfl rfl ?_
          refine m_iconst (v := 1) C dL_law_995 (by decide) ?_
          refine m_iadd C dL_law_996 ?_
          refine m_topi (fun x998 ex998 => ?_)
          have tx998 : x998.toInt = y3.toInt + 1 := by rw [ex998, ti_addv b8 kc_1 (by decide), kt_1]
          have b999 : IV x998 1 3067 := by rw [ex998]; exact iv_add b8 kc_1 (by decide)
          refine m_sld C hX hbl hbA ⟨by omega, by omega⟩ dL_law_997 ?_
          refine m_topi (fun x1000 ex1000 => ?_)
          refine m_callV (n := 1) (ci := 10) (st := []) C (c_X11_count l G τ (x1000) iτ ) (by decide) (by decide) rfl rfl rfl q4_101 q4_98 q4_99 q4_100 q1_1 (by decide +kernel) rfl (by decide) ⟨by show (250 + 8 * y3.toInt.toNat) + 0 ≤ 600000; omega, by show (5300 + 24 * y3.toInt.toNat) + 0 ≤ 7302250; omega⟩ rfl (Nat.le_of_ble_eq_true rfl) dL_law_998 ?_
          rintro _ τ1001 ⟨x1004, rfl, i1002, f1003, b1005⟩
          have r1008 : MA τ1001 S I := mτ.fr iτ f1003 (by decide) (by decide)
          have r1009 : Rel τ1001 := rτ.call f1003 (by decide) (by decide)
          have r1010 : RT τ1001 := tτ.call f1003 (by decide) (by decide)
          have r1011 : CA τ1001 S I := cτ.fr f1003 (by decide) (by decide)
          show MW p l e _ s m _ below meth c _ 4 G (250 + 8 * y3.toInt.toNat) (5300 + 24 * y3.toInt.toNat) 1001 [some (.ref b), some (.ref (G.1 0 0)), some (.ref (G.1 22 0)), some (.int y3)] [.int x1004] τ1001
          refine m_pop C dL_law_1001 rfl ?_
          refine m_aload_n C dL_law_1002 rfl rfl ?_
          refine m_aload_n C dL_law_1003 rfl rfl ?_
          refine m_iload_n C dL_law_1004 rfl rfl ?_
          refine m_iconst (v := 1) C dL_law_1005 (by decide) ?_
          refine m_iadd C dL_law_1006 ?_
          refine m_topi (fun x1012 ex1012 => ?_)
          have tx1012 : x1012.toInt = y3.toInt + 1 := by rw [ex1012, ti_addv b8 kc_1 (by decide), kt_1]
          have b1013 : IV x1012 1 3067 := by rw [ex1012]; exact iv_add b8 kc_1 (by decide)
          refine m_sld C hX hbl hbA ⟨by omega, by omega⟩ dL_law_1007 ?_
          refine m_eqs (w := x1000) (by rw [ex1000, show x1012.toInt.toNat = x998.toInt.toNat by omega]) ?_
          refine m_callV (n := 1) (ci := 11) (st := []) C (c_X12_count l G τ1001 (x1000) i1002 ) (by decide) (by decide) rfl rfl rfl q5_217 q5_214 q5_215 q5_216 q1_7 (by decide +kernel) rfl (by decide) ⟨by show (250 + 8 * y3.toInt.toNat) + 0 ≤ 600000; omega, by show (5300 + 24 * y3.toInt.toNat) + 0 ≤ 7302250; omega⟩ rfl (Nat.le_of_ble_eq_true rfl) dL_law_1008 ?_
          rintro _ τ1014 ⟨x1017, rfl, i1015, f1016, b1018⟩
          have r1021 : Rel τ1014 := r1009.call f1016 (by decide) (by decide)
          have r1022 : RT τ1014 := r1010.call f1016 (by decide) (by decide)
          have r1023 : CA τ1014 S I := r1011.fr f1016 (by decide) (by decide)
          have r1024 : MA τ1014 S I := r1008.fr i1002 f1016 (by decide) (by decide)
          show MW p l e _ s m _ below meth c _ 4 G (250 + 8 * y3.toInt.toNat) (5300 + 24 * y3.toInt.toNat) 1011 [some (.ref b), some (.ref (G.1 0 0)), some (.ref (G.1 22 0)), some (.int y3)] [.int x1017] τ1014
          refine m_pop C dL_law_1011 rfl ?_
          refine m_goto (tgt := 1028) C dL_law_1012 (by decide) ?_
          obtain ⟨x1025, ex1025⟩ : ∃ y : Int32, y = y3 + 6 := ⟨_, rfl⟩
          have tx1025 : x1025.toInt = y3.toInt + 6 := by rw [ex1025, ti_addv b8 kc_6 (by decide), kt_6]
          have b1026 : IV x1025 6 3072 := by rw [ex1025]; exact iv_add b8 kc_6 (by decide)
          refine m_iinc (v := x1025) (L1 := [some (.ref b), some (.ref (G.1 0 0)), some (.ref (G.1 22 0)), some (.int x1025)]) C dL_law_1028 rfl (by rw [ex1025]; rfl) (by decide) rfl rfl ?_
          refine m_goto (tgt := 18) C dL_law_1031 (by decide) ?_
          refine m_widen (c2 := 250 + 8 * x1025.toInt.toNat) (s2 := 5300 + 24 * x1025.toInt.toNat) (by omega) (by omega) ?_
          exact ih18 τ1014 x1025 S I i1015 r1021 r1022 r1023 r1024 (iv_wk b1026 (by decide)) (by have q := hm18; omega)
        by_cases s1027 : x11.toInt = 29
        · refine m_tableIn (tgt := 1015) (off := 982) C dL_law_33 (by omega) (by omega) (by rw [s1027]; rfl) (by decide) ?_
          have b1028 : IV x11 29 29 := ⟨by omega, by omega⟩
          refine m_aload_n C dL_law_1015 rfl rfl ?_
          refine m_callV (n := 0) (ci := 10) (st := []) C (c_X11_status l G τ  iτ ) (by decide) (by decide) rfl rfl rfl q4_109 q4_106 q4_107 q4_108 q1_1 (by decide +kernel) rfl (by decide) ⟨by show (250 + 8 * y3.toInt.toNat) + 0 ≤ 600000; omega, by show (5300 + 24 * y3.toInt.toNat) + 0 ≤ 7302250; omega⟩ rfl (Nat.le_of_ble_eq_true rfl) dL_law_1016 ?_
          rintro _ τ1029 ⟨x1032, rfl, i1030, f1031, b1033⟩
          have r1036 : MA τ1029 S I := mτ.fr iτ f1031 (by decide) (by decide)
          have r1037 : Rel τ1029 := rτ.call f1031 (by decide) (by decide)
          have r1038 : RT τ1029 := tτ.call f1031 (by decide) (by decide)
          have r1039 : CA τ1029 S I := cτ.fr f1031 (by decide) (by decide)
          show MW p l e _ s m _ below meth c _ 4 G (250 + 8 * y3.toInt.toNat) (5300 + 24 * y3.toInt.toNat) 1019 [some (.ref b), some (.ref (G.1 0 0)), some (.ref (G.1 22 0)), some (.int y3)] [.int x1032] τ1029
          refine m_pop C dL_law_1019 rfl ?_
          refine m_aload_n C dL_law_1020 rfl rfl ?_
          refine m_callV (n := 0) (ci := 11) (st := []) C (c_X12_status l G τ1029  i1030 ) (by decide) (by decide) rfl rfl rfl q5_221 q5_218 q5_219 q5_220 q1_7 (by decide +kernel) rfl (by decide) ⟨by show (250 + 8 * y3.toInt.toNat) + 0 ≤ 600000; omega, by show (5300 + 24 * y3.toInt.toNat) + 0 ≤ 7302250; omega⟩ rfl (Nat.le_of_ble_eq_true rfl) dL_law_1021 ?_
          rintro _ τ1040 ⟨x1043, rfl, i1041, f1042, b1044⟩
          have r1047 : Rel τ1040 := r1037.call f1042 (by decide) (by decide)
          have r1048 : RT τ1040 := r1038.call f1042 (by decide) (by decide)
          have r1049 : CA τ1040 S I := r1039.fr f1042 (by decide) (by decide)
          have r1050 : MA τ1040 S I := r1036.fr i1030 f1042 (by decide) (by decide)
          show MW p l e _ s m _ below meth c _ 4 G (250 + 8 * y3.toInt.toNat) (5300 + 24 * y3.toInt.toNat) 1024 [some (.ref b), some (.ref (G.1 0 0)), some (.ref (G.1 22 0)), some (.int y3)] [.int x1043] τ1040
          refine m_pop C dL_law_1024 rfl ?_
          refine m_goto (tgt := 1028) C dL_law_1025 (by decide) ?_
          obtain ⟨x1051, ex1051⟩ : ∃ y : Int32, y = y3 + 6 := ⟨_, rfl⟩
          have tx1051 : x1051.toInt = y3.toInt + 6 := by rw [ex1051, ti_addv b8 kc_6 (by decide), kt_6]
          have b1052 : IV x1051 6 3072 := by rw [ex1051]; exact iv_add b8 kc_6 (by decide)
          refine m_iinc (v := x1051) (L1 := [some (.ref b), some (.ref (G.1 0 0)), some (.ref (G.1 22 0)), some (.int x1051)]) C dL_law_1028 rfl (by rw [ex1051]; rfl) (by decide) rfl rfl ?_
          refine m_goto (tgt := 18) C dL_law_1031 (by decide) ?_
          refine m_widen (c2 := 250 + 8 * x1051.toInt.toNat) (s2 := 5300 + 24 * x1051.toInt.toNat) (by omega) (by omega) ?_
          exact ih18 τ1040 x1051 S I i1041 r1047 r1048 r1049 r1050 (iv_wk b1052 (by decide)) (by have q := hm18; omega)
        exact absurd s13 (by omega)
end LAW
