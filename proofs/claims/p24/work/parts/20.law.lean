def Hid (P : Prop) : Prop := P
theorem Hid.mk {P : Prop} (h : P) : Hid P := h
theorem RT.faultB {σ τ : Sg} {r1 r2 : Int32} (h : RT σ) (f1 : Fr MS_X11_faultT AS_X11_faultT σ τ) (hC : r1.toInt = (gV σ 12 0 2).toInt) (hM : r2.toInt = (gV τ 22 0 7).toInt) : r1.toInt = r2.toInt := by
  rw [hC, hM, f1.1 22 0 7 (by decide) (by decide)]
  exact h.2
theorem RS.imageB {σ τ υ : Sg} {S : Stt} {I : Nat → Stt} {a1 r1 r2 : Int32} (f2 : Fr MS_X12_imageS AS_X12_imageS τ υ) (hC : (((a1.toInt < 0 ∨ 1 < a1.toInt) ∧ r1.toInt = -1000001 ∧ CA τ S I) ∨ ((0 ≤ a1.toInt ∧ a1.toInt ≤ 1) ∧ S.1 ≤ 0 ∧ r1.toInt = -1000002 ∧ CA τ S I) ∨ ((0 ≤ a1.toInt ∧ a1.toInt ≤ 1) ∧ 0 < S.1 ∧ r1.toInt = 1 ∧ CA τ S (upI I (a1.toInt.toNat) S)))) (hM : (((a1.toInt < 0 ∨ 1 < a1.toInt) ∧ r2.toInt = -1000001 ∧ MA υ S I) ∨ ((0 ≤ a1.toInt ∧ a1.toInt ≤ 1) ∧ S.1 ≤ 0 ∧ r2.toInt = -1000002 ∧ MA υ S I) ∨ ((0 ≤ a1.toInt ∧ a1.toInt ≤ 1) ∧ 0 < S.1 ∧ r2.toInt = 1 ∧ MA υ S (upI I (a1.toInt.toNat) S)))) : ∃ I5, CA υ S I5 ∧ MA υ S I5 ∧ r1.toInt = r2.toInt := by
  rcases hC with ⟨c1, c2, c4⟩ | ⟨c1, c2, c3, c4⟩ | ⟨c1, c2, c3, c4⟩ <;> rcases hM with ⟨m1, m2, m4⟩ | ⟨m1, m2, m3, m4⟩ | ⟨m1, m2, m3, m4⟩
  · exact ⟨_, CA.fr c4 f2 (by decide) (by decide), m4, by omega⟩
  · exfalso; omega
  · exfalso; omega
  · exfalso; omega
  · exact ⟨_, CA.fr c4 f2 (by decide) (by decide), m4, by omega⟩
  · exfalso; omega
  · exfalso; omega
  · exfalso; omega
  · exact ⟨_, CA.fr c4 f2 (by decide) (by decide), m4, by omega⟩
theorem RS.restoreB {σ τ υ : Sg} {S : Stt} {I : Nat → Stt} {a1 r1 r2 : Int32} (f2 : Fr MS_X12_restoreS AS_X12_restoreS τ υ) (hC : (((a1.toInt < 0 ∨ 1 < a1.toInt) ∧ r1.toInt = -1000001 ∧ CA τ S I) ∨ ((0 ≤ a1.toInt ∧ a1.toInt ≤ 1) ∧ (I (a1.toInt.toNat)).1 ≤ 0 ∧ r1.toInt = -1000002 ∧ CA τ S I) ∨ ((0 ≤ a1.toInt ∧ a1.toInt ≤ 1) ∧ 0 < (I (a1.toInt.toNat)).1 ∧ r1.toInt = 1 ∧ CA τ (I (a1.toInt.toNat)) I))) (hM : (((a1.toInt < 0 ∨ 1 < a1.toInt) ∧ r2.toInt = -1000001 ∧ MA υ S I) ∨ ((0 ≤ a1.toInt ∧ a1.toInt ≤ 1) ∧ (I (a1.toInt.toNat)).1 ≤ 0 ∧ r2.toInt = -1000002 ∧ MA υ S I) ∨ ((0 ≤ a1.toInt ∧ a1.toInt ≤ 1) ∧ 0 < (I (a1.toInt.toNat)).1 ∧ r2.toInt = 1 ∧ MA υ (I (a1.toInt.toNat)) I))) : ∃ S5, CA υ S5 I ∧ MA υ S5 I ∧ r1.toInt = r2.toInt := by
  rcases hC with ⟨c1, c2, c4⟩ | ⟨c1, c2, c3, c4⟩ | ⟨c1, c2, c3, c4⟩ <;> rcases hM with ⟨m1, m2, m4⟩ | ⟨m1, m2, m3, m4⟩ | ⟨m1, m2, m3, m4⟩
  · exact ⟨_, CA.fr c4 f2 (by decide) (by decide), m4, by omega⟩
  · exfalso; omega
  · exfalso; omega
  · exfalso; omega
  · exact ⟨_, CA.fr c4 f2 (by decide) (by decide), m4, by omega⟩
  · exfalso; omega
  · exfalso; omega
  · exfalso; omega
  · exact ⟨_, CA.fr c4 f2 (by decide) (by decide), m4, by omega⟩
theorem RS.kindB {S : Stt} {a1 r1 r2 : Int32} (hC : (((a1.toInt < 0 ∨ S.2.1 ≤ a1.toInt) ∧ r1.toInt = -1000001) ∨ ((0 ≤ a1.toInt ∧ a1.toInt < S.2.1) ∧ r1.toInt = (S.2.2 a1.toInt.toNat).1))) (hM : (((a1.toInt < 0 ∨ S.2.1 ≤ a1.toInt) ∧ r2.toInt = -1000001) ∨ ((0 ≤ a1.toInt ∧ a1.toInt < S.2.1) ∧ r2.toInt = (S.2.2 a1.toInt.toNat).1))) : r1.toInt = r2.toInt := by omega
theorem RS.asB {S : Stt} {a1 a2 r1 r2 : Int32} (hC : ((((a1.toInt < 0 ∨ S.2.1 ≤ a1.toInt) ∨ a2.toInt < 0 ∨ 5 < a2.toInt) ∧ r1.toInt = -1000001) ∨ ((0 ≤ a1.toInt ∧ a1.toInt < S.2.1) ∧ 0 ≤ a2.toInt ∧ a2.toInt ≤ 5 ∧ (a2.toInt = 0 ∨ (S.2.2 a1.toInt.toNat).1 = a2.toInt ∨ (a2.toInt = 1 ∧ (S.2.2 a1.toInt.toNat).1 ≤ 3) ∨ (a2.toInt = 4 ∧ (S.2.2 a1.toInt.toNat).1 = 5)) ∧ r1.toInt = a1.toInt) ∨ ((0 ≤ a1.toInt ∧ a1.toInt < S.2.1) ∧ 0 ≤ a2.toInt ∧ a2.toInt ≤ 5 ∧ ¬ (a2.toInt = 0 ∨ (S.2.2 a1.toInt.toNat).1 = a2.toInt ∨ (a2.toInt = 1 ∧ (S.2.2 a1.toInt.toNat).1 ≤ 3) ∨ (a2.toInt = 4 ∧ (S.2.2 a1.toInt.toNat).1 = 5)) ∧ r1.toInt = -1000013))) (hM : ((((a1.toInt < 0 ∨ S.2.1 ≤ a1.toInt) ∨ a2.toInt < 0 ∨ 5 < a2.toInt) ∧ r2.toInt = -1000001) ∨ ((0 ≤ a1.toInt ∧ a1.toInt < S.2.1) ∧ 0 ≤ a2.toInt ∧ a2.toInt ≤ 5 ∧ (a2.toInt = 0 ∨ (S.2.2 a1.toInt.toNat).1 = a2.toInt ∨ (a2.toInt = 1 ∧ (S.2.2 a1.toInt.toNat).1 ≤ 3) ∨ (a2.toInt = 4 ∧ (S.2.2 a1.toInt.toNat).1 = 5)) ∧ r2.toInt = a1.toInt) ∨ ((0 ≤ a1.toInt ∧ a1.toInt < S.2.1) ∧ 0 ≤ a2.toInt ∧ a2.toInt ≤ 5 ∧ ¬ (a2.toInt = 0 ∨ (S.2.2 a1.toInt.toNat).1 = a2.toInt ∨ (a2.toInt = 1 ∧ (S.2.2 a1.toInt.toNat).1 ≤ 3) ∨ (a2.toInt = 4 ∧ (S.2.2 a1.toInt.toNat).1 = 5)) ∧ r2.toInt = -1000013))) : r1.toInt = r2.toInt := by omega
section LAW
set_option maxHeartbeats 8000000 in
set_option maxRecDepth 100000 in
theorem law_loop {p : Program} {e : Env} {s : State} {m : MethodId} {below : List Frame} {meth : Method} {c : Code} (l : Launch) {b L : Nat} {xs : Nat → Int32} (hL : L ≤ 3072) (C0 : lw_At p s m meth c b L xs) (G : Gt) (hG0 : G.2.2.2.1 = s.heap.size) : ∀ (n : Nat) (τ : Sg) (y3 : Int32) (S : Stt) (I : Nat → Stt), Inv τ → Rel τ → RT τ → CA τ S I → MA τ S I → IV y3 0 3078 → (3078 - y3.toInt).toNat < n → MW p l e room_1 s m #[Value.ref b] below meth c (lw_Z below #[Value.ref b] s) 4 G (250 + 8 * y3.toInt.toNat) (5300 + 24 * y3.toInt.toNat) 18 [some (.ref b), some (.ref (G.1 0 0)), some (.ref (G.1 22 0)), some (.int y3)] [] τ := by
  obtain ⟨hx, hb, hr, hml, hown, hts, hX, hbl, hlk, hgv⟩ := C0
  have C : Cx p s m #[Value.ref b] c cL_law 4 "LeanTowerLaw" := ⟨hx, hb, hml, hown, fun w hw => hts w (List.mem_filter.mp hw).1⟩
  have hbA : ¬ aG G b := fun q => by have q2 : G.2.2.2.1 ≤ b := q; omega
  have hL31 : L < 2 ^ 31 := by omega
  have k0 : (0 : Int32).toInt = 0 := by decide
  have k1 : (1 : Int32).toInt = 1 := by decide
  intro n
  induction n with
  | zero => intro τ y3 S I iτ rτ tτ cτ mτ b_y3 hm; exact absurd hm (Nat.not_lt_zero _)
  | succ n ih18 =>
      intro τ y3 S I iτ rτ tτ cτ mτ b_y3 hm18
      refine m_iload_n C dL_law_18 rfl rfl ?_
      refine m_aload_n C dL_law_19 rfl rfl ?_
      refine m_slen C hX hbl hbA hL31 dL_law_20 (fun x1 tx1 => ?_)
      have b2 : IV x1 0 3072 := ⟨by omega, by omega⟩
      refine m_bipush (v := 6) C dL_law_21 (by decide) ?_
      refine m_isub C dL_law_23 ?_
      refine m_topi (fun x3 ex3 => ?_)
      have tx3 : x3.toInt = x1.toInt - 6 := by rw [ex3, ti_subv b2 kc_6 (by decide), kt_6]
      have b4 : IV x3 (-6) 3066 := by rw [ex3]; exact iv_sub b2 kc_6 (by decide)
      refine m_icmp_gt (tgt := 1034) C dL_law_24 (by decide) (fun c5 => ?_) (fun c5 => ?_)
      · have f6 : x3.toInt < y3.toInt := by
          have q : _ := c5
          simp only [ti_nle, ti_nlt, ti_le, ti_lt, ti_eq, ti_ne, Classical.not_not] at q
          omega
        refine m_iconst (v := 1) C dL_law_1034 (by decide) ?_
        exact m_law1 C hG0 hr hlk ⟨by omega, by omega⟩ dL_law_1035
      · have f7 : y3.toInt ≤ x3.toInt := by
          have q : _ := c5
          simp only [ti_nle, ti_nlt, ti_le, ti_lt, ti_eq, ti_ne, Classical.not_not] at q
          omega
        have b8 : IV y3 0 3066 := ⟨by have q1 := b_y3; have q2 := b4; omega, by have q1 := b_y3; have q2 := b4; omega⟩
        have b9 : IV x3 0 3066 := ⟨by have q1 := b_y3; have q2 := b4; omega, by have q1 := b_y3; have q2 := b4; omega⟩
        refine m_aload_n C dL_law_27 rfl rfl ?_
        refine m_iload_n C dL_law_28 rfl rfl ?_
        refine m_sld C hX hbl hbA ⟨by omega, by omega⟩ dL_law_29 ?_
        refine m_topi (fun x10 ex10 => ?_)
        refine m_bipush (v := 31) C dL_law_30 (by decide) ?_
        refine m_iand C dL_law_32 ?_
        refine m_topi (fun x11 ex11 => ?_)
        have b12 : IV x11 0 31 := by rw [ex11]; exact iv_and_r kc_31 (by decide)
        by_cases s13 : x11.toInt < 0 ∨ 29 < x11.toInt
        · refine m_tableOut (tgt := 1028) C dL_law_33 s13 (by decide) ?_
          obtain ⟨x14, ex14⟩ : ∃ y : Int32, y = y3 + 6 := ⟨_, rfl⟩
          have tx14 : x14.toInt = y3.toInt + 6 := by rw [ex14, ti_addv b8 kc_6 (by decide), kt_6]
          have b15 : IV x14 6 3072 := by rw [ex14]; exact iv_add b8 kc_6 (by decide)
          refine m_iinc (v := x14) (L1 := [some (.ref b), some (.ref (G.1 0 0)), some (.ref (G.1 22 0)), some (.int x14)]) C dL_law_1028 rfl (by rw [ex14]; rfl) (by decide) rfl rfl ?_
          refine m_goto (tgt := 18) C dL_law_1031 (by decide) ?_
          refine m_widen (c2 := 250 + 8 * x14.toInt.toNat) (s2 := 5300 + 24 * x14.toInt.toNat) (by omega) (by omega) ?_
          exact ih18 τ x14 S I iτ rτ tτ cτ mτ (iv_wk b15 (by decide)) (by have q := hm18; omega)
        by_cases s16 : x11.toInt = 0
        · refine m_tableIn (tgt := 168) (off := 135) C dL_law_33 (by omega) (by omega) (by rw [s16]; rfl) (by decide) ?_
          have b17 : IV x11 0 0 := ⟨by omega, by omega⟩
          refine m_aload_n C dL_law_168 rfl rfl ?_
          refine m_aload_n C dL_law_169 rfl rfl ?_
          refine m_iload_n C dL_law_170 rfl rfl ?_
          refine m_iconst (v := 1) C dL_law_171 (by decide) ?_
          refine m_iadd C dL_law_172 ?_
          refine m_topi (fun x18 ex18 => ?_)
          have tx18 : x18.toInt = y3.toInt + 1 := by rw [ex18, ti_addv b8 kc_1 (by decide), kt_1]
          have b19 : IV x18 1 3067 := by rw [ex18]; exact iv_add b8 kc_1 (by decide)
          refine m_sld C hX hbl hbA ⟨by omega, by omega⟩ dL_law_173 ?_
          refine m_topi (fun x20 ex20 => ?_)
          refine m_aload_n C dL_law_174 rfl rfl ?_
          refine m_iload_n C dL_law_175 rfl rfl ?_
          refine m_iconst (v := 2) C dL_law_176 (by decide) ?_
          refine m_iadd C dL_law_177 ?_
          refine m_topi (fun x21 ex21 => ?_)
          have tx21 : x21.toInt = y3.toInt + 2 := by rw [ex21, ti_addv b8 kc_2 (by decide), kt_2]
          have b22 : IV x21 2 3068 := by rw [ex21]; exact iv_add b8 kc_2 (by decide)
          refine m_sld C hX hbl hbA ⟨by omega, by omega⟩ dL_law_178 ?_
          refine m_topi (fun x23 ex23 => ?_)
          refine m_aload_n C dL_law_179 rfl rfl ?_
          refine m_iload_n C dL_law_180 rfl rfl ?_
          refine m_iconst (v := 3) C dL_law_181 (by decide) ?_
          refine m_iadd C dL_law_182 ?_
          refine m_topi (fun x24 ex24 => ?_)
          have tx24 : x24.toInt = y3.toInt + 3 := by rw [ex24, ti_addv b8 kc_3 (by decide), kt_3]
          have b25 : IV x24 3 3069 := by rw [ex24]; exact iv_add b8 kc_3 (by decide)
          refine m_sld C hX hbl hbA ⟨by omega, by omega⟩ dL_law_183 ?_
          refine m_topi (fun x26 ex26 => ?_)
          refine m_callV (n := 3) (ci := 10) (st := []) C (c_X11_rowE l G τ (x20) (x23) (x26) iτ ) (by decide) (by decide) rfl rfl rfl q1_229 q1_226 q1_227 q1_228 q1_1 (by decide +kernel) rfl (by decide) ⟨by show (250 + 8 * y3.toInt.toNat) + 0 ≤ 600000; omega, by show (5300 + 24 * y3.toInt.toNat) + 0 ≤ 7302250; omega⟩ rfl (Nat.le_of_ble_eq_true rfl) dL_law_184 ?_
          rintro _ τ27 ⟨x30, rfl, i28, f29, b31, h33⟩
          have r34 : MA τ27 S I := mτ.fr iτ f29 (by decide) (by decide)
          have z35 := Hid.mk h33
          clear h33
          have r36 : RT τ27 := tτ.call f29 (by decide) (by decide)
          have r37 : CA τ27 S I := cτ.fr f29 (by decide) (by decide)
          show MW p l e _ s m _ below meth c _ 4 G (250 + 8 * y3.toInt.toNat) (5300 + 24 * y3.toInt.toNat) 187 [some (.ref b), some (.ref (G.1 0 0)), some (.ref (G.1 22 0)), some (.int y3)] [.int x30] τ27
          refine m_pop C dL_law_187 rfl ?_
          refine m_aload_n C dL_law_188 rfl rfl ?_
          refine m_aload_n C dL_law_189 rfl rfl ?_
          refine m_iload_n C dL_law_190 rfl rfl ?_
          refine m_iconst (v := 1) C dL_law_191 (by decide) ?_
          refine m_iadd C dL_law_192 ?_
          refine m_topi (fun x38 ex38 => ?_)
          have tx38 : x38.toInt = y3.toInt + 1 := by rw [ex38, ti_addv b8 kc_1 (by decide), kt_1]
          have b39 : IV x38 1 3067 := by rw [ex38]; exact iv_add b8 kc_1 (by decide)
          refine m_sld C hX hbl hbA ⟨by omega, by omega⟩ dL_law_193 ?_
          refine m_eqs (w := x20) (by rw [ex20, show x38.toInt.toNat = x18.toInt.toNat by omega]) ?_
          refine m_aload_n C dL_law_194 rfl rfl ?_
          refine m_iload_n C dL_law_195 rfl rfl ?_
          refine m_iconst (v := 2) C dL_law_196 (by decide) ?_
          refine m_iadd C dL_law_197 ?_
          refine m_topi (fun x40 ex40 => ?_)
          have tx40 : x40.toInt = y3.toInt + 2 := by rw [ex40, ti_addv b8 kc_2 (by decide), kt_2]
          have b41 : IV x40 2 3068 := by rw [ex40]; exact iv_add b8 kc_2 (by decide)
          refine m_sld C hX hbl hbA ⟨by omega, by omega⟩ dL_law_198 ?_
          refine m_eqs (w := x23) (by rw [ex23, show x40.toInt.toNat = x21.toInt.toNat by omega]) ?_
          refine m_aload_n C dL_law_199 rfl rfl ?_
          refine m_iload_n C dL_law_200 rfl rfl ?_
          refine m_iconst (v := 3) C dL_law_201 (by decide) ?_
          refine m_iadd C dL_law_202 ?_
          refine m_topi (fun x42 ex42 => ?_)
          have tx42 : x42.toInt = y3.toInt + 3 := by rw [ex42, ti_addv b8 kc_3 (by decide), kt_3]
          have b43 : IV x42 3 3069 := by rw [ex42]; exact iv_add b8 kc_3 (by decide)
          refine m_sld C hX hbl hbA ⟨by omega, by omega⟩ dL_law_203 ?_
          refine m_eqs (w := x26) (by rw [ex26, show x42.toInt.toNat = x24.toInt.toNat by omega]) ?_
          refine m_callV (n := 3) (ci := 11) (st := []) C (c_X12_rowE l G τ27 (x20) (x23) (x26) i28 ) (by decide) (by decide) rfl rfl rfl q4_183 q4_180 q4_181 q4_182 q1_7 (by decide +kernel) rfl (by decide) ⟨by show (250 + 8 * y3.toInt.toNat) + 0 ≤ 600000; omega, by show (5300 + 24 * y3.toInt.toNat) + 0 ≤ 7302250; omega⟩ rfl (Nat.le_of_ble_eq_true rfl) dL_law_204 ?_
          rintro _ τ44 ⟨x47, rfl, i45, f46, b48, h50⟩
          have g51 := Rel.rowB rτ f29 f46 z35 h50
          have r52 : Rel τ44 := g51.1
          have q53 := g51.2
          have r54 : RT τ44 := r36.call f46 (by decide) (by decide)
          have r55 : CA τ44 S I := r37.fr f46 (by decide) (by decide)
          have r56 : MA τ44 S I := r34.fr i28 f46 (by decide) (by decide)
          clear h50 z35
          show MW p l e _ s m _ below meth c _ 4 G (250 + 8 * y3.toInt.toNat) (5300 + 24 * y3.toInt.toNat) 207 [some (.ref b), some (.ref (G.1 0 0)), some (.ref (G.1 22 0)), some (.int y3)] [.int x47] τ44
          refine m_pop C dL_law_207 rfl ?_
          refine m_goto (tgt := 1028) C dL_law_208 (by decide) ?_
          obtain ⟨x57, ex57⟩ : ∃ y : Int32, y = y3 + 6 := ⟨_, rfl⟩
          have tx57 : x57.toInt = y3.toInt + 6 := by rw [ex57, ti_addv b8 kc_6 (by decide), kt_6]
          have b58 : IV x57 6 3072 := by rw [ex57]; exact iv_add b8 kc_6 (by decide)
          refine m_iinc (v := x57) (L1 := [some (.ref b), some (.ref (G.1 0 0)), some (.ref (G.1 22 0)), some (.int x57)]) C dL_law_1028 rfl (by rw [ex57]; rfl) (by decide) rfl rfl ?_
          refine m_goto (tgt := 18) C dL_law_1031 (by decide) ?_
          refine m_widen (c2 := 250 + 8 * x57.toInt.toNat) (s2 := 5300 + 24 * x57.toInt.toNat) (by omega) (by omega) ?_
          exact ih18 τ44 x57 S I i45 r52 r54 r55 r56 (iv_wk b58 (by decide)) (by have q := hm18; omega)
        by_cases s59 : x11.toInt = 1
        · refine m_tableIn (tgt := 211) (off := 178) C dL_law_33 (by omega) (by omega) (by rw [s59]; rfl) (by decide) ?_
          have b60 : IV x11 1 1 := ⟨by omega, by omega⟩
          refine m_aload_n C dL_law_211 rfl rfl ?_
          refine m_aload_n C dL_law_212 rfl rfl ?_
          refine m_iload_n C dL_law_213 rfl rfl ?_
          refine m_iconst (v := 1) C dL_law_214 (by decide) ?_
          refine m_iadd C dL_law_215 ?_
          refine m_topi (fun x61 ex61 => ?_)
          have tx61 : x61.toInt = y3.toInt + 1 := by rw [ex61, ti_addv b8 kc_1 (by decide), kt_1]
          have b62 : IV x61 1 3067 := by rw [ex61]; exact iv_add b8 kc_1 (by decide)
          refine m_sld C hX hbl hbA ⟨by omega, by omega⟩ dL_law_216 ?_
          refine m_topi (fun x63 ex63 => ?_)
          refine m_aload_n C dL_law_217 rfl rfl ?_
          refine m_iload_n C dL_law_218 rfl rfl ?_
          refine m_iconst (v := 2) C dL_law_219 (by decide) ?_
          refine m_iadd C dL_law_220 ?_
          refine m_topi (fun x64 ex64 => ?_)
          have tx64 : x64.toInt = y3.toInt + 2 := by rw [ex64, ti_addv b8 kc_2 (by decide), kt_2]
          have b65 : IV x64 2 3068 := by rw [ex64]; exact iv_add b8 kc_2 (by decide)
          refine m_sld C hX hbl hbA ⟨by omega, by omega⟩ dL_law_221 ?_
          refine m_topi (fun x66 ex66 => ?_)
          refine m_aload_n C dL_law_222 rfl rfl ?_
          refine m_iload_n C dL_law_223 rfl rfl ?_
          refine m_iconst (v := 3) C dL_law_224 (by decide) ?_
          refine m_iadd C dL_law_225 ?_
          refine m_topi (fun x67 ex67 => ?_)
          have tx67 : x67.toInt = y3.toInt + 3 := by rw [ex67, ti_addv b8 kc_3 (by decide), kt_3]
          have b68 : IV x67 3 3069 := by rw [ex67]; exact iv_add b8 kc_3 (by decide)
          refine m_sld C hX hbl hbA ⟨by omega, by omega⟩ dL_law_226 ?_
          refine m_topi (fun x69 ex69 => ?_)
          refine m_callV (n := 3) (ci := 10) (st := []) C (c_X11_setE l G τ (x63) (x66) (x69) iτ ) (by decide) (by decide) rfl rfl rfl q2_11 q2_8 q2_9 q2_10 q1_1 (by decide +kernel) rfl (by decide) ⟨by show (250 + 8 * y3.toInt.toNat) + 0 ≤ 600000; omega, by show (5300 + 24 * y3.toInt.toNat) + 0 ≤ 7302250; omega⟩ rfl (Nat.le_of_ble_eq_true rfl) dL_law_227 ?_
          rintro _ τ70 ⟨x73, rfl, i71, f72, b74, h76⟩
          have r77 : MA τ70 S I := mτ.fr iτ f72 (by decide) (by decide)
          have z78 := Hid.mk h76
          clear h76
          have r79 : Rel τ70 := rτ.call f72 (by decide) (by decide)
          have r80 : RT τ70 := tτ.call f72 (by decide) (by decide)
          have r81 : CA τ70 S I := cτ.fr f72 (by decide) (by decide)
          show MW p l e _ s m _ below meth c _ 4 G (250 + 8 * y3.toInt.toNat) (5300 + 24 * y3.toInt.toNat) 230 [some (.ref b), some (.ref (G.1 0 0)), some (.ref (G.1 22 0)), some (.int y3)] [.int x73] τ70
          refine m_pop C dL_law_230 rfl ?_
          refine m_aload_n C dL_law_231 rfl rfl ?_
          refine m_aload_n C dL_law_232 rfl rfl ?_
          refine m_iload_n C dL_law_233 rfl rfl ?_
          refine m_iconst (v := 1) C dL_law_234 (by decide) ?_
          refine m_iadd C dL_law_235 ?_
          refine m_topi (fun x82 ex82 => ?_)
          have tx82 : x82.toInt = y3.toInt + 1 := by rw [ex82, ti_addv b8 kc_1 (by decide), kt_1]
          have b83 : IV x82 1 3067 := by rw [ex82]; exact iv_add b8 kc_1 (by decide)
          refine m_sld C hX hbl hbA ⟨by omega, by omega⟩ dL_law_236 ?_
          refine m_eqs (w := x63) (by rw [ex63, show x82.toInt.toNat = x61.toInt.toNat by omega]) ?_
          refine m_aload_n C dL_law_237 rfl rfl ?_
          refine m_iload_n C dL_law_238 rfl rfl ?_
          refine m_iconst (v := 2) C dL_law_239 (by decide) ?_
          refine m_iadd C dL_law_240 ?_
          refine m_topi (fun x84 ex84 => ?_)
          have tx84 : x84.toInt = y3.toInt + 2 := by rw [ex84, ti_addv b8 kc_2 (by decide), kt_2]
          have b85 : IV x84 2 3068 := by rw [ex84]; exact iv_add b8 kc_2 (by decide)
          refine m_sld C hX hbl hbA ⟨by omega, by omega⟩ dL_law_241 ?_
          refine m_eqs (w := x66) (by rw [ex66, show x84.toInt.toNat = x64.toInt.toNat by omega]) ?_
          refine m_aload_n C dL_law_242 rfl rfl ?_
          refine m_iload_n C dL_law_243 rfl rfl ?_
          refine m_iconst (v := 3) C dL_law_244 (by decide) ?_
          refine m_iadd C dL_law_245 ?_
          refine m_topi (fun x86 ex86 => ?_)
          have tx86 : x86.toInt = y3.toInt + 3 := by rw [ex86, ti_addv b8 kc_3 (by decide), kt_3]
          have b87 : IV x86 3 3069 := by rw [ex86]; exact iv_add b8 kc_3 (by decide)
          refine m_sld C hX hbl hbA ⟨by omega, by omega⟩ dL_law_246 ?_
          refine m_eqs (w := x69) (by rw [ex69, show x86.toInt.toNat = x67.toInt.toNat by omega]) ?_
          refine m_callV (n := 3) (ci := 11) (st := []) C (c_X12_setE l G τ70 (x63) (x66) (x69) i71 ) (by decide) (by decide) rfl rfl rfl q4_205 q4_202 q4_203 q4_204 q1_7 (by decide +kernel) rfl (by decide) ⟨by show (250 + 8 * y3.toInt.toNat) + 0 ≤ 600000; omega, by show (5300 + 24 * y3.toInt.toNat) + 0 ≤ 7302250; omega⟩ rfl (Nat.le_of_ble_eq_true rfl) dL_law_247 ?_
          rintro _ τ88 ⟨x91, rfl, i89, f90, b92, h94⟩
          have g95 := Rel.setB rτ f72 f90 z78 h94
          have r96 : Rel τ88 := r79.call f90 (by decide) (by decide)
          have r97 : RT τ88 := r80.call f90 (by decide) (by decide)
          have r98 : CA τ88 S I := r81.fr f90 (by decide) (by decide)
          have r99 : MA τ88 S I := r77.fr i71 f90 (by decide) (by decide)
          clear h94 z78
          show MW p l e _ s m _ below meth c _ 4 G (250 + 8 * y3.toInt.toNat) (5300 + 24 * y3.toInt.toNat) 250 [some (.ref b), some (.ref (G.1 0 0)), some (.ref (G.1 22 0)), some (.int y3)] [.int x91] τ88
          refine m_pop C dL_law_250 rfl ?_
          refine m_goto (tgt := 1028) C dL_law_251 (by decide) ?_
          obtain ⟨x100, ex100⟩ : ∃ y : Int32, y = y3 + 6 := ⟨_, rfl⟩
          have tx100 : x100.toInt = y3.toInt + 6 := by rw [ex100, ti_addv b8 kc_6 (by decide), kt_6]
          have b101 : IV x100 6 3072 := by rw [ex100]; exact iv_add b8 kc_6 (by decide)
          refine m_iinc (v := x100) (L1 := [some (.ref b), some (.ref (G.1 0 0)), some (.ref (G.1 22 0)), some (.int x100)]) C dL_law_1028 rfl (by rw [ex100]; rfl) (by decide) rfl rfl ?_
          refine m_goto (tgt := 18) C dL_law_1031 (by decide) ?_
          refine m_widen (c2 := 250 + 8 * x100.toInt.toNat) (s2 := 5300 + 24 * x100.toInt.toNat) (by omega) (by omega) ?_
          exact ih18 τ88 x100 S I i89 r96 r97 r98 r99 (iv_wk b101 (by decide)) (by have q := hm18; omega)
        by_cases s102 : x11.toInt = 2
        · refine m_tableIn (tgt := 254) (off := 221) C dL_law_33 (by omega) (by omega) (by rw [s102]; rfl) (by decide) ?_
          have b103 : IV x11 2 2 := ⟨by omega, by omega⟩
          refine m_aload_n C dL_law_254 rfl rfl ?_
          refine m_aload_n C dL_law_255 rfl rfl ?_
          refine m_iload_n C dL_law_256 rfl rfl ?_
          refine m_iconst (v := 1) C dL_law_257 (by decide) ?_
          refine m_iadd C dL_law_258 ?_
          refine m_topi (fun x104 ex104 => ?_)
          have tx104 : x104.toInt = y3.toInt + 1 := by rw [ex104, ti_addv b8 kc_1 (by decide), kt_1]
          have b105 : IV x104 1 3067 := by rw [ex104]; exact iv_add b8 kc_1 (by decide)
          refine m_sld C hX hbl hbA ⟨by omega, by omega⟩ dL_law_259 ?_
          refine m_topi (fun x106 ex106 => ?_)
          refine m_aload_n C dL_law_260 rfl rfl ?_
          refine m_iload_n C dL_law_261 rfl rfl ?_
          refine m_iconst (v := 2) C dL_law_262 (by decide) ?_
          refine m_iadd C dL_law_263 ?_
          refine m_topi (fun x107 ex107 => ?_)
          have tx107 : x107.toInt = y3.toInt + 2 := by rw [ex107, ti_addv b8 kc_2 (by decide), kt_2]
          have b108 : IV x107 2 3068 := by rw [ex107]; exact iv_add b8 kc_2 (by decide)
          refine m_sld C hX hbl hbA ⟨by omega, by omega⟩ dL_law_264 ?_
          refine m_topi (fun x109 ex109 => ?_)
          refine m_aload_n C dL_law_265 rfl rfl ?_
          refine m_iload_n C dL_law_266 rfl rfl ?_
          refine m_iconst (v := 3) C dL_law_267 (by decide) ?_
          refine m_iadd C dL_law_268 ?_
          refine m_topi (fun x110 ex110 => ?_)
          have tx110 : x110.toInt = y3.toInt + 3 := by rw [ex110, ti_addv b8 kc_3 (by decide), kt_3]
          have b111 : IV x110 3 3069 := by rw [ex110]; exact iv_add b8 kc_3 (by decide)
          refine m_sld C hX hbl hbA ⟨by omega, by omega⟩ dL_law_269 ?_
          refine m_topi (fun x112 ex112 => ?_)
          refine m_aload_n C dL_law_270 rfl rfl ?_
          refine m_iload_n C dL_law_271 rfl rfl ?_
          refine m_iconst (v := 4) C dL_law_272 (by decide) ?_
          refine m_iadd C dL_law_273 ?_
          refine m_topi (fun x113 ex113 => ?_)
          have tx113 : x113.toInt = y3.toInt + 4 := by rw [ex113, ti_addv b8 kc_4 (by decide), kt_4]
          have b114 : IV x113 4 3070 := by rw [ex113]; exact iv_add b8 kc_4 (by decide)
          refine m_sld C hX hbl hbA ⟨by omega, by omega⟩ dL_law_274 ?_
          refine m_topi (fun x115 ex115 => ?_)
          refine m_aload_n C dL_law_275 rfl rfl ?_
          refine m_iload_n C dL_law_276 rfl rfl ?_
          refine m_iconst (v := 5) C dL_law_277 (by decide) ?_
          refine m_iadd C dL_law_278 ?_
          refine m_topi (fun x116 ex116 => ?_)
          have tx116 : x116.toInt = y3.toInt + 5 := by rw [ex116, ti_addv b8 kc_5 (by decide), kt_5]
          have b117 : IV x116 5 3071 := by rw [ex116]; exact iv_add b8 kc_5 (by decide)
          refine m_sld C hX hbl hbA ⟨by omega, by omega⟩ dL_law_279 ?_
          refine m_topi (fun x118 ex118 => ?_)
          refine m_callV (n := 5) (ci := 10) (st := []) C (c_X11_copyE l G τ (x106) (x109) (x112) (x115) (x118) iτ ) (by decide) (by decide) rfl rfl rfl q2_23 q2_20 q2_21 q2_22 q1_1 (by decide +kernel) rfl (by decide) ⟨by show (250 + 8 * y3.toInt.toNat) + 0 ≤ 600000; omega, by show (5300 + 24 * y3.toInt.toNat) + 0 ≤ 7302250; omega⟩ rfl (Nat.le_of_ble_eq_true rfl) dL_law_280 ?_
          rintro _ τ119 ⟨x122, rfl, i120, f121, b123, h125⟩
          have r126 : MA τ119 S I := mτ.fr iτ f121 (by decide) (by decide)
          have z127 := Hid.mk h125
          clear h125
          have r128 : Rel τ119 := rτ.call f121 (by decide) (by decide)
          have r129 : RT τ119 := tτ.call f121 (by decide) (by decide)
          have r130 : CA τ119 S I := cτ.fr f121 (by decide) (by decide)
          show MW p l e _ s m _ below meth c _ 4 G (250 + 8 * y3.toInt.toNat) (5300 + 24 * y3.toInt.toNat) 283 [some (.ref b), some (.ref (G.1 0 0)), some (.ref (G.1 22 0)), some (.int y3)] [.int x122] τ119
          refine m_pop C dL_law_283 rfl ?_
          refine m_aload_n C dL_law_284 rfl rfl ?_
          refine m_aload_n C dL_law_285 rfl rfl ?_
          refine m_iload_n C dL_law_286 rfl rfl ?_
          refine m_iconst (v := 1) C dL_law_287 (by decide) ?_
          refine m_iadd C dL_law_288 ?_
          refine m_topi (fun x131 ex131 => ?_)
          have tx131 : x131.toInt = y3.toInt + 1 := by rw [ex131, ti_addv b8 kc_1 (by decide), kt_1]
          have b132 : IV x131 1 3067 := by rw [ex131]; exact iv_add b8 kc_1 (by decide)
          refine m_sld C hX hbl hbA ⟨by omega, by omega⟩ dL_law_289 ?_
          refine m_eqs (w := x106) (by rw [ex106, show x131.toInt.toNat = x104.toInt.toNat by omega]) ?_
          refine m_aload_n C dL_law_290 rfl rfl ?_
          refine m_iload_n C dL_law_291 rfl rfl ?_
          refine m_iconst (v := 2) C dL_law_292 (by decide) ?_
          refine m_iadd C dL_law_293 ?_
          refine m_topi (fun x133 ex133 => ?_)
          have tx133 : x133.toInt = y3.toInt + 2 := by rw [ex133, ti_addv b8 kc_2 (by decide), kt_2]
          have b134 : IV x133 2 3068 := by rw [ex133]; exact iv_add b8 kc_2 (by decide)
          refine m_sld C hX hbl hbA ⟨by omega, by omega⟩ dL_law_294 ?_
          refine m_eqs (w := x109) (by rw [ex109, show x133.toInt.toNat = x107.toInt.toNat by omega]) ?_
          refine m_aload_n C dL_law_295 rfl rfl ?_
          refine m_iload_n C dL_law_296 rfl rfl ?_
          refine m_iconst (v := 3) C dL_law_297 (by decide) ?_
          refine m_iadd C dL_law_298 ?_
          refine m_topi (fun x135 ex135 => ?_)
          have tx135 : x135.toInt = y3.toInt + 3 := by rw [ex135, ti_addv b8 kc_3 (by decide), kt_3]
          have b136 : IV x135 3 3069 := by rw [ex135]; exact iv_add b8 kc_3 (by decide)
          refine m_sld C hX hbl hbA ⟨by omega, by omega⟩ dL_law_299 ?_
          refine m_eqs (w := x112) (by rw [ex112, show x135.toInt.toNat = x110.toInt.toNat by omega]) ?_
          refine m_aload_n C dL_law_300 rfl rfl ?_
          refine m_iload_n C dL_law_301 rfl rfl ?_
          refine m_iconst (v := 4) C dL_law_302 (by decide) ?_
          refine m_iadd C dL_law_303 ?_
          refine m_topi (fun x137 ex137 => ?_)
          have tx137 : x137.toInt = y3.toInt + 4 := by rw [ex137, ti_addv b8 kc_4 (by decide), kt_4]
          have b138 : IV x137 4 3070 := by rw [ex137]; exact iv_add b8 kc_4 (by decide)
          refine m_sld C hX hbl hbA ⟨by omega, by omega⟩ dL_law_304 ?_
          refine m_eqs (w := x115) (by rw [ex115, show x137.toInt.toNat = x113.toInt.toNat by omega]) ?_
          refine m_aload_n C dL_law_305 rfl rfl ?_
          refine m_iload_n C dL_law_306 rfl rfl ?_
          refine m_iconst (v := 5) C dL_law_307 (by decide) ?_
          refine m_iadd C dL_law_308 ?_
          refine m_topi (fun x139 ex139 => ?_)
          have tx139 : x139.toInt = y3.toInt + 5 := by rw [ex139, ti_addv b8 kc_5 (by decide), kt_5]
          have b140 : IV x139 5 3071 := by rw [ex139]; exact iv_add b8 kc_5 (by decide)
          refine m_sld C hX hbl hbA ⟨by omega, by omega⟩ dL_law_309 ?_
          refine m_eqs (w := x118) (by rw [ex118, show x139.toInt.toNat = x116.toInt.toNat by omega]) ?_
          refine m_callV (n := 5) (ci := 11) (st := []) C (c_X12_copyE l G τ119 (x106) (x109) (x112) (x115) (x118) i120 ) (by decide) (by decide) rfl rfl rfl q4_212 q4_209 q4_210 q4_211 q1_7 (by decide +kernel) rfl (by decide) ⟨by show (250 + 8 * y3.toInt.toNat) + 0 ≤ 600000; omega, by show (5300 + 24 * y3.toInt.toNat) + 0 ≤ 7302250; omega⟩ rfl (Nat.le_of_ble_eq_true rfl) dL_law_310 ?_
          rintro _ τ141 ⟨x144, rfl, i142, f143, b145, h147⟩
          have g148 := Rel.copyB rτ f121 f143 z127 h147
          have r149 : Rel τ141 := r128.call f143 (by decide) (by decide)
          have r150 : RT τ141 := r129.call f143 (by decide) (by decide)
          have r151 : CA τ141 S I := r130.fr f143 (by decide) (by decide)
          have r152 : MA τ141 S I := r126.fr i120 f143 (by decide) (by decide)
          clear h147 z127
          show MW p l e _ s m _ below meth c _ 4 G (250 + 8 * y3.toInt.toNat) (5300 + 24 * y3.toInt.toNat) 313 [some (.ref b), some (.ref (G.1 0 0)), some (.ref (G.1 22 0)), some (.int y3)] [.int x144] τ141
          refine m_pop C dL_law_313 rfl ?_
          refine m_goto (tgt := 1028) C dL_law_314 (by decide) ?_
          obtain ⟨x153, ex153⟩ : ∃ y : Int32, y = y3 + 6 := ⟨_, rfl⟩
          have tx153 : x153.toInt = y3.toInt + 6 := by rw [ex153, ti_addv b8 kc_6 (by decide), kt_6]
          have b154 : IV x153 6 3072 := by rw [ex153]; exact iv_add b8 kc_6 (by decide)
          refine m_iinc (v := x153) (L1 := [some (.ref b), some (.ref (G.1 0 0)), some (.ref (G.1 22 0)), some (.int x153)]) C dL_law_1028 rfl (by rw [ex153]; rfl) (by decide) rfl rfl ?_
          refine m_goto (tgt := 18) C dL_law_1031 (by decide) ?_
          refine m_widen (c2 := 250 + 8 * x153.toInt.toNat) (s2 := 5300 + 24 * x153.toInt.toNat) (by omega) (by omega) ?_
          exact ih18 τ141 x153 S I i142 r149 r150 r151 r152 (iv_wk b154 (by decide)) (by have q := hm18; omega)
        by_cases s155 : x11.toInt = 3
        · refine m_tableIn (tgt := 317) (off := 284) C dL_law_33 (by omega) (by omega) (by rw [s155]; rfl) (by decide) ?_
          have b156 : IV x11 3 3 := ⟨by omega, by omega⟩
          refine m_aload_n C dL_law_317 rfl rfl ?_
          refine m_aload_n C dL_law_318 rfl rfl ?_
          refine m_iload_n C dL_law_319 rfl rfl ?_
          refine m_iconst (v := 1) C dL_law_320 (by decide) ?_
          refine m_iadd C dL_law_321 ?_
          refine m_topi (fun x157 ex157 => ?_)
          have tx157 : x157.toInt = y3.toInt + 1 := by rw [ex157, ti_addv b8 kc_1 (by decide), kt_1]
          have b158 : IV x157 1 3067 := by rw [ex157]; exact iv_add b8 kc_1 (by decide)
          refine m_sld C hX hbl hbA ⟨by omega, by omega⟩ dL_law_322 ?_
          refine m_topi (fun x159 ex159 => ?_)
          refine m_callV (n := 1) (ci := 10) (st := []) C (c_X11_dropE l G τ (x159) iτ ) (by decide) (by decide) rfl rfl rfl q2_34 q2_31 q2_32 q2_33 q1_1 (by decide +kernel) rfl (by decide) ⟨by show (250 + 8 * y3.toInt.toNat) + 0 ≤ 600000; omega, by show (5300 + 24 * y3.toInt.toNat) + 0 ≤ 7302250; omega⟩ rfl (Nat.le_of_ble_eq_true rfl) dL_law_323 ?_
          rintro _ τ160 ⟨x163, rfl, i161, f162, b164, h166⟩
          have r167 : MA τ160 S I := mτ.fr iτ f162 (by decide) (by decide)
          have z168 := Hid.mk h166
          clear h166
          have r169 : RT τ160 := tτ.call f162 (by decide) (by decide)
          have r170 : CA τ160 S I := cτ.fr f162 (by decide) (by decide)
          show MW p l e _ s m _ below meth c _ 4 G (250 + 8 * y3.toInt.toNat) (5300 + 24 * y3.toInt.toNat) 326 [some (.ref b), some (.ref (G.1 0 0)), some (.ref (G.1 22 0)), some (.int y3)] [.int x163] τ160
          refine m_pop C dL_law_326 rfl ?_
          refine m_aload_n C dL_law_327 rfl rfl ?_
          refine m_aload_n C dL_law_328 rfl rfl ?_
          refine m_iload_n C dL_law_329 rfl rfl ?_
          refine m_iconst (v := 1) C dL_law_330 (by decide) ?_
          refine m_iadd C dL_law_331 ?_
          refine m_topi (fun x171 ex171 => ?_)
          have tx171 : x171.toInt = y3.toInt + 1 := by rw [ex171, ti_addv b8 kc_1 (by decide), kt_1]
          have b172 : IV x171 1 3067 := by rw [ex171]; exact iv_add b8 kc_1 (by decide)
          refine m_sld C hX hbl hbA ⟨by omega, by omega⟩ dL_law_332 ?_
          refine m_eqs (w := x159) (by rw [ex159, show x171.toInt.toNat = x157.toInt.toNat by omega]) ?_
          refine m_callV (n := 1) (ci := 11) (st := []) C (c_X12_dropE l G τ160 (x159) i161 ) (by decide) (by decide) rfl rfl rfl q4_216 q4_213 q4_214 q4_215 q1_7 (by decide +kernel) rfl (by decide) ⟨by show (250 + 8 * y3.toInt.toNat) + 0 ≤ 600000; omega, by show (5300 + 24 * y3.toInt.toNat) + 0 ≤ 7302250; omega⟩ rfl (Nat.le_of_ble_eq_true rfl) dL_law_333 ?_
          rintro _ τ173 ⟨x176, rfl, i174, f175, b177, h179⟩
          have g180 := Rel.dropB rτ f162 f175 z168 h179
          have r181 : Rel τ173 := g180.1
          have q182 := g180.2
          have r183 : RT τ173 := r169.call f175 (by decide) (by decide)
          have r184 : CA τ173 S I := r170.fr f175 (by decide) (by decide)
          have r185 : MA τ173 S I := r167.fr i161 f175 (by decide) (by decide)
          clear h179 z168
          show MW p l e _ s m _ below meth c _ 4 G (250 + 8 * y3.toInt.toNat) (5300 + 24 * y3.toInt.toNat) 336 [some (.ref b), some (.ref (G.1 0 0)), some (.ref (G.1 22 0)), some (.int y3)] [.int x176] τ173
          refine m_pop C dL_law_336 rfl ?_
          refine m_goto (tgt := 1028) C dL_law_337 (by decide) ?_
          obtain ⟨x186, ex186⟩ : ∃ y : Int32, y = y3 + 6 := ⟨_, rfl⟩
          have tx186 : x186.toInt = y3.toInt + 6 := by rw [ex186, ti_addv b8 kc_6 (by decide), kt_6]
          have b187 : IV x186 6 3072 := by rw [ex186]; exact iv_add b8 kc_6 (by decide)
          refine m_iinc (v := x186) (L1 := [some (.ref b), some (.ref (G.1 0 0)), some (.ref (G.1 22 0)), some (.int x186)]) C dL_law_1028 rfl (by rw [ex186]; rfl) (by decide) rfl rfl ?_
          refine m_goto (tgt := 18) C dL_law_1031 (by decide) ?_
          refine m_widen (c2 := 250 + 8 * x186.toInt.toNat) (s2 := 5300 + 24 * x186.toInt.toNat) (by omega) (by omega) ?_
          exact ih18 τ173 x186 S I i174 r181 r183 r184 r185 (iv_wk b187 (by decide)) (by have q := hm18; omega)
        by_cases s188 : x11.toInt = 4
        · refine m_tableIn (tgt := 340) (off := 307) C dL_law_33 (by omega) (by omega) (by rw [s188]; rfl) (by decide) ?_
          have b189 : IV x11 4 4 := ⟨by omega, by omega⟩
          refine m_aload_n C dL_law_340 rfl rfl ?_
          refine m_aload_n C dL_law_341 rfl rfl ?_
          refine m_iload_n C dL_law_342 rfl rfl ?_
          refine m_iconst (v := 1) C dL_law_343 (by decide) ?_
          refine m_iadd C dL_law_344 ?_
          refine m_topi (fun x190 ex190 => ?_)
          have tx190 : x190.toInt = y3.toInt + 1 := by rw [ex190, ti_addv b8 kc_1 (by decide), kt_1]
          have b191 : IV x190 1 3067 := by rw [ex190]; exact iv_add b8 kc_1 (by decide)
          refine m_sld C hX hbl hbA ⟨by omega, by omega⟩ dL_law_345 ?_
          refine m_topi (fun x192 ex192 => ?_)
          refine m_i2l C dL_law_346 ?_
          refine m_bipush (v := 32) C dL_law_347 (by decide) ?_
          refine m_lshl C dL_law_349 ?_
          refine m_topl (fun w193 ew193 => ?_)
          refine m_aload_n C dL_law_350 rfl rfl ?_
          refine m_iload_n C dL_law_351 rfl rfl ?_
          refine m_iconst (v := 2) C dL_law_352 (by decide) ?_
          refine m_iadd C dL_law_353 ?_
          refine m_topi (fun x194 ex194 => ?_)
          have tx194 : x194.toInt = y3.toInt + 2 := by rw [ex194, ti_addv b8 kc_2 (by decide), kt_2]
          have b195 : IV x194 2 3068 := by rw [ex194]; exact iv_add b8 kc_2 (by decide)
          refine m_sld C hX hbl hbA ⟨by omega, by omega⟩ dL_law_354 ?_
          refine m_topi (fun x196 ex196 => ?_)
          refine m_i2l C dL_law_355 ?_
          refine m_ldc2 (v := 4294967295) C dL_law_356 q5_222 ?_
          refine m_land C dL_law_359 ?_
          refine m_topl (fun w197 ew197 => ?_)
          refine m_lor C dL_law_360 ?_
          refine m_topl (fun w198 ew198 => ?_)
          refine m_aload_n C dL_law_361 rfl rfl ?_
          refine m_iload_n C dL_law_362 rfl rfl ?_
          refine m_iconst (v := 3) C dL_law_363 (by decide) ?_
          refine m_iadd C dL_law_364 ?_
          refine m_topi (fun x199 ex199 => ?_)
          have tx199 : x199.toInt = y3.toInt + 3 := by rw [ex199, ti_addv b8 kc_3 (by decide), kt_3]
          have b200 : IV x199 3 3069 := by rw [ex199]; exact iv_add b8 kc_3 (by decide)
          refine m_sld C hX hbl hbA ⟨by omega, by omega⟩ dL_law_365 ?_
          refine m_topi (fun x201 ex201 => ?_)
          refine m_callV (n := 2) (ci := 10) (st := []) C (c_X11_feedT l G τ (w198) (x201) iτ ) (by decide) (by decide) rfl rfl rfl q2_42 q2_39 q2_40 q2_41 q1_1 (by decide +kernel) rfl (by decide) ⟨by show (250 + 8 * y3.toInt.toNat) + 0 ≤ 600000; omega, by show (5300 + 24 * y3.toInt.toNat) + 0 ≤ 7302250; omega⟩ rfl (Nat.le_of_ble_eq_true rfl) dL_law_366 ?_
          rintro _ τ202 ⟨x205, rfl, i203, f204, b206, h208⟩
          have r209 : MA τ202 S I := mτ.fr iτ f204 (by decide) (by decide)
          have z210 := Hid.mk h208
          clear h208
          have r211 : CA τ202 S I := cτ.fr f204 (by decide) (by decide)
          show MW p l e _ s m _ below meth c _ 4 G (250 + 8 * y3.toInt.toNat) (5300 + 24 * y3.toInt.toNat) 369 [some (.ref b), some (.ref (G.1 0 0)), some (.ref (G.1 22 0)), some (.int y3)] [.int x205] τ202
          refine m_pop C dL_law_369 rfl ?_
          refine m_aload_n C dL_law_370 rfl rfl ?_
          refine m_aload_n C dL_law_371 rfl rfl ?_
          refine m_iload_n C dL_law_372 rfl rfl ?_
          refine m_iconst (v := 1) C dL_law_373 (by decide) ?_
          refine m_iadd C dL_law_374 ?_
          refine m_topi (fun x212 ex212 => ?_)
          have tx212 : x212.toInt = y3.toInt + 1 := by rw [ex212, ti_addv b8 kc_1 (by decide), kt_1]
          have b213 : IV x212 1 3067 := by rw [ex212]; exact iv_add b8 kc_1 (by decide)
          refine m_sld C hX hbl hbA ⟨by omega, by omega⟩ dL_law_375 ?_
          refine m_eqs (w := x192) (by rw [ex192, show x212.toInt.toNat = x190.toInt.toNat by omega]) ?_
          refine m_i2l C dL_law_376 ?_
          refine m_bipush (v := 32) C dL_law_377 (by decide) ?_
          refine m_lshl C dL_law_379 ?_
          refine m_topl (fun w214 ew214 => ?_)
          refine m_aload_n C dL_law_380 rfl rfl ?_
          refine m_iload_n C dL_law_381 rfl rfl ?_
          refine m_iconst (v := 2) C dL_law_382 (by decide) ?_
          refine m_iadd C dL_law_383 ?_
          refine m_topi (fun x215 ex215 => ?_)
          have tx215 : x215.toInt = y3.toInt + 2 := by rw [ex215, ti_addv b8 kc_2 (by decide), kt_2]
          have b216 : IV x215 2 3068 := by rw [ex215]; exact iv_add b8 kc_2 (by decide)
          refine m_sld C hX hbl hbA ⟨by omega, by omega⟩ dL_law_384 ?_
          refine m_eqs (w := x196) (by rw [ex196, show x215.toInt.toNat = x194.toInt.toNat by omega]) ?_
          refine m_i2l C dL_law_385 ?_
          refine m_ldc2 (v := 4294967295) C dL_law_386 q5_222 ?_
          refine m_land C dL_law_389 ?_
          refine m_topl (fun w217 ew217 => ?_)
          refine m_lor C dL_law_390 ?_
          refine m_topl (fun w218 ew218 => ?_)
          refine m_aload_n C dL_law_391 rfl rfl ?_
          refine m_iload_n C dL_law_392 rfl rfl ?_
          refine m_iconst (v := 3) C dL_law_393 (by decide) ?_
          refine m_iadd C dL_law_394 ?_
          refine m_topi (fun x219 ex219 => ?_)
          have tx219 : x219.toInt = y3.toInt + 3 := by rw [ex219, ti_addv b8 kc_3 (by decide), kt_3]
          have b220 : IV x219 3 3069 := by rw [ex219]; exact iv_add b8 kc_3 (by decide)
          refine m_sld C hX hbl hbA ⟨by omega, by omega⟩ dL_law_395 ?_
          refine m_eqs (w := x201) (by rw [ex201, show x219.toInt.toNat = x199.toInt.toNat by omega]) ?_
          refine m_callV (n := 2) (ci := 11) (st := []) C (c_X12_feedT l G τ202 (w218) (x201) i203 ) (by decide) (by decide) rfl rfl rfl q4_220 q4_217 q4_218 q4_219 q1_7 (by decide +kernel) rfl (by decide) ⟨by show (250 + 8 * y3.toInt.toNat) + 0 ≤ 600000; omega, by show (5300 + 24 * y3.toInt.toNat) + 0 ≤ 7302250; omega⟩ rfl (Nat.le_of_ble_eq_true rfl) dL_law_396 ?_
          rintro _ τ221 ⟨x224, rfl, i222, f223, b225, h227⟩
          have g228 := RT.feedB rτ tτ f204 f223 z210 h227
          have r229 : Rel τ221 := g228.1
          have r230 : RT τ221 := g228.2.1
          have q231 := g228.2.2
          have r232 : CA τ221 S I := r211.fr f223 (by decide) (by decide)
          have r233 : MA τ221 S I := r209.fr i203 f223 (by decide) (by decide)
          clear h227 z210
          show MW p l e _ s m _ below meth c _ 4 G (250 + 8 * y3.toInt.toNat) (5300 + 24 * y3.toInt.toNat) 399 [some (.ref b), some (.ref (G.1 0 0)), some (.ref (G.1 22 0)), some (.int y3)] [.int x224] τ221
          refine m_pop C dL_law_399 rfl ?_
          refine m_goto (tgt := 1028) C dL_law_400 (by decide) ?_
          obtain ⟨x234, ex234⟩ : ∃ y : Int32, y = y3 + 6 := ⟨_, rfl⟩
          have tx234 : x234.toInt = y3.toInt + 6 := by rw [ex234, ti_addv b8 kc_6 (by decide), kt_6]
          have b235 : IV x234 6 3072 := by rw [ex234]; exact iv_add b8 kc_6 (by decide)
          refine m_iinc (v := x234) (L1 := [some (.ref b), some (.ref (G.1 0 0)), some (.ref (G.1 22 0)), some (.int x234)]) C dL_law_1028 rfl (by rw [ex234]; rfl) (by decide) rfl rfl ?_
          refine m_goto (tgt := 18) C dL_law_1031 (by decide) ?_
          refine m_widen (c2 := 250 + 8 * x234.toInt.toNat) (s2 := 5300 + 24 * x234.toInt.toNat) (by omega) (by omega) ?_
          exact ih18 τ221 x234 S I i222 r229 r230 r232 r233 (iv_wk b235 (by decide)) (by have q := hm18; omega)
        by_cases s236 : x11.toInt = 5
        · refine m_tableIn (tgt := 403) (off := 370) C dL_law_33 (by omega) (by omega) (by rw [s236]; rfl) (by decide) ?_
          have b237 : IV x11 5 5 := ⟨by omega, by omega⟩
          refine m_aload_n C dL_law_403 rfl rfl ?_
          obtain ⟨⟨T, N, hTC, hTM⟩, hTL⟩ := id tτ
          refine m_callV (n := 0) (ci := 10) (st := []) C (c_X11_towerS l G τ T N S I  iτ hTC cτ) (by decide) (by decide) rfl rfl rfl q2_51 q2_48 q2_49 q2_50 q1_1 (by decide +kernel) rfl (by decide) ⟨by show (250 + 8 * y3.toInt.toNat) + 8 ≤ 600000; omega, by show (5300 + 24 * y3.toInt.toNat) + 24 ≤ 7302250; omega⟩ rfl (Nat.le_of_ble_eq_true rfl) dL_law_404 ?_
          rintro _ τ238 ⟨x241, rfl, i239, f240, b242, h244⟩
          obtain ⟨h244, h244t0, h244t1⟩ := h244
          have r245 : MA τ238 S I := mτ.fr iτ f240 (by decide) (by decide)
          have z246 := Hid.mk h244
          clear h244
          show MW p l e _ s m _ below meth c _ 4 G ((250 + 8 * y3.toInt.toNat) + 8) ((5300 + 24 * y3.toInt.toNat) + 24) 407 [some (.ref b), some (.ref (G.1 0 0)), some (.ref (G.1 22 0)), some (.int y3)] [.int x241] τ238
          refine m_pop C dL_law_407 rfl ?_
          refine m_aload_n C dL_law_408 rfl rfl ?_
          have hTM2 := hTM.fr f240 (by decide) (by decide) (by simp) (by decide)
          refine m_callV (n := 0) (ci := 11) (st := []) C (c_X12_towerS l G τ238 T N S I  i239 hTM2 r245) (by decide) (by decide) rfl rfl rfl q4_227 q4_224 q4_225 q4_226 q1_7 (by decide +kernel) rfl (by decide) ⟨by show ((250 + 8 * y3.toInt.toNat) + 8) + 0 ≤ 600000; omega, by show ((5300 + 24 * y3.toInt.toNat) + 24) + 0 ≤ 7302250; omega⟩ rfl (Nat.le_of_ble_eq_true rfl) dL_law_409 ?_
          rintro _ τ247 ⟨x250, rfl, i248, f249, b251, h253⟩
          obtain ⟨h253, h253t0, h253t1⟩ := h253
          have g254 := RT.towerB rτ tτ f240 f249 z246 h253
          have r255 : Rel τ247 := g254.1
          have r256 : RT τ247 := g254.2.1
          have q257 := g254.2.2
          obtain ⟨S258, h259, h260⟩ : ∃ S5, CA τ247 S5 I ∧ MA τ247 S5 I := by
            by_cases gF : outF T N = 0
            · exact ⟨_, (h244t1 gF).fr f249 (by decide) (by decide), h253t1 gF⟩
            · exact ⟨_, (h244t0 gF).fr f249 (by decide) (by decide), h253t0 gF⟩
          clear h244t0 h244t1 h253t0 h253t1
          clear h253 z246
          show MW p l e _ s m _ below meth c _ 4 G ((250 + 8 * y3.toInt.toNat) + 8) ((5300 + 24 * y3.toInt.toNat) + 24) 412 [some (.ref b), some (.ref (G.1 0 0)), some (.ref (G.1 22 0)), some (.int y3)] [.int x250] τ247
          refine m_pop C dL_law_412 rfl ?_
          refine m_goto (tgt := 1028) C dL_law_413 (by decide) ?_
          obtain ⟨x261, ex261⟩ : ∃ y : Int32, y = y3 + 6 := ⟨_, rfl⟩
          have tx261 : x261.toInt = y3.toInt + 6 := by rw [ex261, ti_addv b8 kc_6 (by decide), kt_6]
          have b262 : IV x261 6 3072 := by rw [ex261]; exact iv_add b8 kc_6 (by decide)
          refine m_iinc (v := x261) (L1 := [some (.ref b), some (.ref (G.1 0 0)), some (.ref (G.1 22 0)), some (.int x261)]) C dL_law_1028 rfl (by rw [ex261]; rfl) (by decide) rfl rfl ?_
          refine m_goto (tgt := 18) C dL_law_1031 (by decide) ?_
          refine m_widen (c2 := 250 + 8 * x261.toInt.toNat) (s2 := 5300 + 24 * x261.toInt.toNat) (by omega) (by omega) ?_
          exact ih18 τ247 x261 S258 I i248 r255 r256 h259 h260 (iv_wk b262 (by decide)) (by have q := hm18; omega)
        by_cases s263 : x11.toInt = 6
        · refine m_tableIn (tgt := 416) (off := 383) C dL_law_33 (by omega) (by omega) (by rw [s263]; rfl) (by decide) ?_
          have b264 : IV x11 6 6 := ⟨by omega, by omega⟩
          refine m_aload_n C dL_law_416 rfl rfl ?_
          refine m_callV (n := 0) (ci := 10) (st := []) C (c_X11_faultT l G τ  iτ ) (by decide) (by decide) rfl rfl rfl q3_13 q3_10 q3_11 q3_12 q1_1 (by decide +kernel) rfl (by decide) ⟨by show (250 + 8 * y3.toInt.toNat) + 0 ≤ 600000; omega, by show (5300 + 24 * y3.toInt.toNat) + 0 ≤ 7302250; omega⟩ rfl (Nat.le_of_ble_eq_true rfl) dL_law_417 ?_
          rintro _ τ265 ⟨x268, rfl, i266, f267, b269, h271⟩
          have r272 : MA τ265 S I := mτ.fr iτ f267 (by decide) (by decide)
          have z273 := Hid.mk h271
          clear h271
          have r274 : Rel τ265 := rτ.call f267 (by decide) (by decide)
          have r275 : RT τ265 := tτ.call f267 (by decide) (by decide)
          have r276 : CA τ265 S I := cτ.fr f267 (by decide) (by decide)
          show MW p l e _ s m _ below meth c _ 4 G (250 + 8 * y3.toInt.toNat) (5300 + 24 * y3.toInt.toNat) 420 [some (.ref b), some (.ref (G.1 0 0)), some (.ref (G.1 22 0)), some (.int y3)] [.int x268] τ265
          refine m_pop C dL_law_420 rfl ?_
          refine m_aload_n C dL_law_421 rfl rfl ?_
          refine m_callV (n := 0) (ci := 11) (st := []) C (c_X12_faultT l G τ265  i266 ) (by decide) (by decide) rfl rfl rfl q5_42 q5_39 q5_40 q5_41 q1_7 (by decide +kernel) rfl (by decide) ⟨by show (250 + 8 * y3.toInt.toNat) + 0 ≤ 600000; omega, by show (5300 + 24 * y3.toInt.toNat) + 0 ≤ 7302250; omega⟩ rfl (Nat.le_of_ble_eq_true rfl) dL_law_422 ?_
          rintro _ τ277 ⟨x280, rfl, i278, f279, b281, h283⟩
          have g284 := RT.faultB tτ f267 z273 h283
          have r285 : Rel τ277 := r274.call f279 (by decide) (by decide)
          have r286 : RT τ277 := r275.call f279 (by decide) (by decide)
          have r287 : CA τ277 S I := r276.fr f279 (by decide) (by decide)
          have r288 : MA τ277 S I := r272.fr i266 f279 (by decide) (by decide)
          clear h283 z273
          show MW p l e _ s m _ below meth c _ 4 G (250 + 8 * y3.toInt.toNat) (5300 + 24 * y3.toInt.toNat) 425 [some (.ref b), some (.ref (G.1 0 0)), some (.ref (G.1 22 0)), some (.int y3)] [.int x280] τ277
          refine m_pop C dL_law_425 rfl ?_
          refine m_goto (tgt := 1028) C dL_law_426 (by decide) ?_
          obtain ⟨x289, ex289⟩ : ∃ y : Int32, y = y3 + 6 := ⟨_, rfl⟩
          have tx289 : x289.toInt = y3.toInt + 6 := by rw [ex289, ti_addv b8 kc_6 (by decide), kt_6]
          have b290 : IV x289 6 3072 := by rw [ex289]; exact iv_add b8 kc_6 (by decide)
          refine m_iinc (v := x289) (L1 := [some (.ref b), some (.ref (G.1 0 0)), some (.ref (G.1 22 0)), some (.int x289)]) C dL_law_1028 rfl (by rw [ex289]; rfl) (by decide) rfl rfl ?_
          refine m_goto (tgt := 18) C dL_law_1031 (by decide) ?_
          refine m_widen (c2 := 250 + 8 * x289.toInt.toNat) (s2 := 5300 + 24 * x289.toInt.toNat) (by omega) (by omega) ?_
          exact ih18 τ277 x289 S I i278 r285 r286 r287 r288 (iv_wk b290 (by decide)) (by have q := hm18; omega)
        by_cases s291 : x11.toInt = 7
        · refine m_tableIn (tgt := 429) (off := 396) C dL_law_33 (by omega) (by omega) (by rw [s291]; rfl) (by decide) ?_
          have b292 : IV x11 7 7 := ⟨by omega, by omega⟩
          refine m_aload_n C dL_law_429 rfl rfl ?_
          refine m_aload_n C dL_law_430 rfl rfl ?_
          refine m_iload_n C dL_law_431 rfl rfl ?_
          refine m_iconst (v := 1) C dL_law_432 (by decide) ?_
          refine m_iadd C dL_law_433 ?_
          refine m_topi (fun x293 ex293 => ?_)
          have tx293 : x293.toInt = y3.toInt + 1 := by rw [ex293, ti_addv b8 kc_1 (by decide), kt_1]
          have b294 : IV x293 1 3067 := by rw [ex293]; exact iv_add b8 kc_1 (by decide)
          refine m_sld C hX hbl hbA ⟨by omega, by omega⟩ dL_law_434 ?_
          refine m_topi (fun x295 ex295 => ?_)
          refine m_aload_n C dL_law_435 rfl rfl ?_
          refine m_iload_n C dL_law_436 rfl rfl ?_
          refine m_iconst (v := 2) C dL_law_437 (by decide) ?_
          refine m_iadd C dL_law_438 ?_
          refine m_topi (fun x296 ex296 => ?_)
          have tx296 : x296.toInt = y3.toInt + 2 := by rw [ex296, ti_addv b8 kc_2 (by decide), kt_2]
          have b297 : IV x296 2 3068 := by rw [ex296]; exact iv_add b8 kc_2 (by decide)
          refine m_sld C hX hbl hbA ⟨by omega, by omega⟩ dL_law_439 ?_
          refine m_topi (fun x298 ex298 => ?_)
          refine m_callV (n := 2) (ci := 10) (st := []) C (c_X11_goS l G τ S I (x295) (x298) iτ cτ) (by decide) (by decide) rfl rfl rfl q3_17 q3_14 q3_15 q3_16 q1_1 (by decide +kernel) rfl (by decide) ⟨by show (250 + 8 * y3.toInt.toNat) + 0 ≤ 600000; omega, by show (5300 + 24 * y3.toInt.toNat) + 0 ≤ 7302250; omega⟩ rfl (Nat.le_of_ble_eq_true rfl) dL_law_440 ?_
          rintro _ τ299 ⟨x302, rfl, i300, f301, b303, h305⟩
          have r306 : MA τ299 S I := mτ.fr iτ f301 (by decide) (by decide)
          have r307 : Rel τ299 := rτ.call f301 (by decide) (by decide)
          have r308 : RT τ299 := tτ.call f301 (by decide) (by decide)
          have r309 : CA τ299 S I := h305
          show MW p l e _ s m _ below meth c _ 4 G (250 + 8 * y3.toInt.toNat) (5300 + 24 * y3.toInt.toNat) 443 [some (.ref b), some (.ref (G.1 0 0)), some (.ref (G.1 22 0)), some (.int y3)] [.int x302] τ299
          refine m_pop C dL_law_443 rfl ?_
          refine m_aload_n C dL_law_444 rfl rfl ?_
          refine m_aload_n C dL_law_445 rfl rfl ?_
          refine m_iload_n C dL_law_446 rfl rfl ?_
          refine m_iconst (v := 1) C dL_law_447 (by decide) ?_
          refine m_iadd C dL_law_448 ?_
          refine m_topi (fun x310 ex310 => ?_)
          have tx310 : x310.toInt = y3.toInt + 1 := by rw [ex310, ti_addv b8 kc_1 (by decide), kt_1]
          have b311 : IV x310 1 3067 := by rw [ex310]; exact iv_add b8 kc_1 (by decide)
          refine m_sld C hX hbl hbA ⟨by omega, by omega⟩ dL_law_449 ?_
          refine m_eqs (w := x295) (by rw [ex295, show x310.toInt.toNat = x293.toInt.toNat by omega]) ?_
          refine m_aload_n C dL_law_450 rfl rfl ?_
          refine m_iload_n C dL_law_451 rfl rfl ?_
          refine m_iconst (v := 2) C dL_law_452 (by decide) ?_
          refine m_iadd C dL_law_453 ?_
          refine m_topi (fun x312 ex312 => ?_)
          have tx312 : x312.toInt = y3.toInt + 2 := by rw [ex312, ti_addv b8 kc_2 (by decide), kt_2]
          have b313 : IV x312 2 3068 := by rw [ex312]; exact iv_add b8 kc_2 (by decide)
          refine m_sld C hX hbl hbA ⟨by omega, by omega⟩ dL_law_454 ?_
          refine m_eqs (w := x298) (by rw [ex298, show x312.toInt.toNat = x296.toInt.toNat by omega]) ?_
          refine m_callV (n := 2) (ci := 11) (st := []) C (c_X12_goS l G τ299 S I (x295) (x298) i300 r306) (by decide) (by decide) rfl rfl rfl q5_46 q5_43 q5_44 q5_45 q1_7 (by decide +kernel) rfl (by decide) ⟨by show (250 + 8 * y3.toInt.toNat) + 0 ≤ 600000; omega, by show (5300 + 24 * y3.toInt.toNat) + 0 ≤ 7302250; omega⟩ rfl (Nat.le_of_ble_eq_true rfl) dL_law_455 ?_
          rintro _ τ314 ⟨x317, rfl, i315, f316, b318, h320⟩
          have r321 : Rel τ314 := r307.call f316 (by decide) (by decide)
          have r322 : RT τ314 := r308.call f316 (by decide) (by decide)
          have r323 : CA τ314 S I := r309.fr f316 (by decide) (by decide)
          have r324 : MA τ314 S I := h320
          show MW p l e _ s m _ below meth c _ 4 G (250 + 8 * y3.toInt.toNat) (5300 + 24 * y3.toInt.toNat) 458 [some (.ref b), some (.ref (G.1 0 0)), some (.ref (G.1 22 0)), some (.int y3)] [.int x317] τ314
          refine m_pop C dL_law_458 rfl ?_
          refine m_goto (tgt := 1028) C dL_law_459 (by decide) ?_
          obtain ⟨x325, ex325⟩ : ∃ y : Int32, y = y3 + 6 := ⟨_, rfl⟩
          have tx325 : x325.toInt = y3.toInt + 6 := by rw [ex325, ti_addv b8 kc_6 (by decide), kt_6]
          have b326 : IV x325 6 3072 := by rw [ex325]; exact iv_add b8 kc_6 (by decide)
          refine m_iinc (v := x325) (L1 := [some (.ref b), some (.ref (G.1 0 0)), some (.ref (G.1 22 0)), some (.int x325)]) C dL_law_1028 rfl (by rw [ex325]; rfl) (by decide) rfl rfl ?_
          refine m_goto (tgt := 18) C dL_law_1031 (by decide) ?_
          refine m_widen (c2 := 250 + 8 * x325.toInt.toNat) (s2 := 5300 + 24 * x325.toInt.toNat) (by omega) (by omega) ?_
          exact ih18 τ314 x325 S I i315 r321 r322 r323 r324 (iv_wk b326 (by decide)) (by have q := hm18; omega)
        by_cases s327 : x11.toInt = 8
        · refine m_tableIn (tgt := 462) (off := 429) C dL_law_33 (by omega) (by omega) (by rw [s327]; rfl) (by decide) ?_
          have b328 : IV x11 8 8 := ⟨by omega, by omega⟩
          refine m_aload_n C dL_law_462 rfl rfl ?_
          refine m_aload_n C dL_law_463 rfl rfl ?_
          refine m_iload_n C dL_law_464 rfl rfl ?_
          refine m_iconst (v := 1) C dL_law_465 (by decide) ?_
          refine m_iadd C dL_law_466 ?_
          refine m_topi (fun x329 ex329 => ?_)
          have tx329 : x329.toInt = y3.toInt + 1 := by rw [ex329, ti_addv b8 kc_1 (by decide), kt_1]
          have b330 : IV x329 1 3067 := by rw [ex329]; exact iv_add b8 kc_1 (by decide)
          refine m_sld C hX hbl hbA ⟨by omega, by omega⟩ dL_law_467 ?_
          refine m_topi (fun x331 ex331 => ?_)
          refine m_aload_n C dL_law_468 rfl rfl ?_
          refine m_iload_n C dL_law_469 rfl rfl ?_
          refine m_iconst (v := 2) C dL_law_470 (by decide) ?_
          refine m_iadd C dL_law_471 ?_
          refine m_topi (fun x332 ex332 => ?_)
          have tx332 : x332.toInt = y3.toInt + 2 := by rw [ex332, ti_addv b8 kc_2 (by decide), kt_2]
          have b333 : IV x332 2 3068 := by rw [ex332]; exact iv_add b8 kc_2 (by decide)
          refine m_sld C hX hbl hbA ⟨by omega, by omega⟩ dL_law_472 ?_
          refine m_topi (fun x334 ex334 => ?_)
          refine m_callV (n := 2) (ci := 10) (st := []) C (c_X11_hangS l G τ S I (x331) (x334) iτ cτ) (by decide) (by decide) rfl rfl rfl q3_29 q3_26 q3_27 q3_28 q1_1 (by decide +kernel) rfl (by decide) ⟨by show (250 + 8 * y3.toInt.toNat) + 0 ≤ 600000; omega, by show (5300 + 24 * y3.toInt.toNat) + 0 ≤ 7302250; omega⟩ rfl (Nat.le_of_ble_eq_true rfl) dL_law_473 ?_
          rintro _ τ335 ⟨x338, rfl, i336, f337, b339, h341⟩
          have r342 : MA τ335 S I := mτ.fr iτ f337 (by decide) (by decide)
          have r343 : Rel τ335 := rτ.call f337 (by decide) (by decide)
          have r344 : RT τ335 := tτ.call f337 (by decide) (by decide)
          have r345 : CA τ335 S I := h341
          show MW p l e _ s m _ below meth c _ 4 G (250 + 8 * y3.toInt.toNat) (5300 + 24 * y3.toInt.toNat) 476 [some (.ref b), some (.ref (G.1 0 0)), some (.ref (G.1 22 0)), some (.int y3)] [.int x338] τ335
          refine m_pop C dL_law_476 rfl ?_
          refine m_aload_n C dL_law_477 rfl rfl ?_
          refine m_aload_n C dL_law_478 rfl rfl ?_
          refine m_iload_n C dL_law_479 rfl rfl ?_
          refine m_iconst (v := 1) C dL_law_480 (by decide) ?_
          refine m_iadd C dL_law_481 ?_
          refine m_topi (fun x346 ex346 => ?_)
          have tx346 : x346.toInt = y3.toInt + 1 := by rw [ex346, ti_addv b8 kc_1 (by decide), kt_1]
          have b347 : IV x346 1 3067 := by rw [ex346]; exact iv_add b8 kc_1 (by decide)
          refine m_sld C hX hbl hbA ⟨by omega, by omega⟩ dL_law_482 ?_
          refine m_eqs (w := x331) (by rw [ex331, show x346.toInt.toNat = x329.toInt.toNat by omega]) ?_
          refine m_aload_n C dL_law_483 rfl rfl ?_
          refine m_iload_n C dL_law_484 rfl rfl ?_
          refine m_iconst (v := 2) C dL_law_485 (by decide) ?_
          refine m_iadd C dL_law_486 ?_
          refine m_topi (fun x348 ex348 => ?_)
          have tx348 : x348.toInt = y3.toInt + 2 := by rw [ex348, ti_addv b8 kc_2 (by decide), kt_2]
          have b349 : IV x348 2 3068 := by rw [ex348]; exact iv_add b8 kc_2 (by decide)
          refine m_sld C hX hbl hbA ⟨by omega, by omega⟩ dL_law_487 ?_
          refine m_eqs (w := x334) (by rw [ex334, show x348.toInt.toNat = x332.toInt.toNat by omega]) ?_
          refine m_callV (n := 2) (ci := 11) (st := []) C (c_X12_hangS l G τ335 S I (x331) (x334) i336 r342) (by decide) (by decide) rfl rfl rfl q5_58 q5_55 q5_56 q5_57 q1_7 (by decide +kernel) rfl (by decide) ⟨by show (250 + 8 * y3.toInt.toNat) + 0 ≤ 600000; omega, by show (5300 + 24 * y3.toInt.toNat) + 0 ≤ 7302250; omega⟩ rfl (Nat.le_of_ble_eq_true rfl) dL_law_488 ?_
          rintro _ τ350 ⟨x353, rfl, i351, f352, b354, h356⟩
          have r357 : Rel τ350 := r343.call f352 (by decide) (by decide)
          have r358 : RT τ350 := r344.call f352 (by decide) (by decide)
          have r359 : CA τ350 S I := r345.fr f352 (by decide) (by decide)
          have r360 : MA τ350 S I := h356
          show MW p l e _ s m _ below meth c _ 4 G (250 + 8 * y3.toInt.toNat) (5300 + 24 * y3.toInt.toNat) 491 [some (.ref b), some (.ref (G.1 0 0)), some (.ref (G.1 22 0)), some (.int y3)] [.int x353] τ350
          refine m_pop C dL_law_491 rfl ?_
          refine m_goto (tgt := 1028) C dL_law_492 (by decide) ?_
          obtain ⟨x361, ex361⟩ : ∃ y : Int32, y = y3 + 6 := ⟨_, rfl⟩
          have tx361 : x361.toInt = y3.toInt + 6 := by rw [ex361, ti_addv b8 kc_6 (by decide), kt_6]
          have b362 : IV x361 6 3072 := by rw [ex361]; exact iv_add b8 kc_6 (by decide)
          refine m_iinc (v := x361) (L1 := [some (.ref b), some (.ref (G.1 0 0)), some (.ref (G.1 22 0)), some (.int x361)]) C dL_law_1028 rfl (by rw [ex361]; rfl) (by decide) rfl rfl ?_
          refine m_goto (tgt := 18) C dL_law_1031 (by decide) ?_
          refine m_widen (c2 := 250 + 8 * x361.toInt.toNat) (s2 := 5300 + 24 * x361.toInt.toNat) (by omega) (by omega) ?_
          exact ih18 τ350 x361 S I i351 r357 r358 r359 r360 (iv_wk b362 (by decide)) (by have q := hm18; omega)
        by_cases s363 : x11.toInt = 9
        · refine m_tableIn (tgt := 495) (off := 462) C dL_law_33 (by omega) (by omega) (by rw [s363]; rfl) (by decide) ?_
          have b364 : IV x11 9 9 := ⟨by omega, by omega⟩
          refine m_aload_n C dL_law_495 rfl rfl ?_
          refine m_aload_n C dL_law_496 rfl rfl ?_
          refine m_iload_n C dL_law_497 rfl rfl ?_
          refine m_iconst (v := 1) C dL_law_498 (by decide) ?_
          refine m_iadd C dL_law_499 ?_
          refine m_topi (fun x365 ex365 => ?_)
          have tx365 : x365.toInt = y3.toInt + 1 := by rw [ex365, ti_addv b8 kc_1 (by decide), kt_1]
          have b366 : IV x365 1 3067 := by rw [ex365]; exact iv_add b8 kc_1 (by decide)
          refine m_sld C hX hbl hbA ⟨by omega, by omega⟩ dL_law_500 ?_
          refine m_topi (fun x367 ex367 => ?_)
          refine m_callV (n := 1) (ci := 10) (st := []) C (c_X11_halvesS l G τ S I (x367) iτ cτ) (by decide) (by decide) rfl rfl rfl q3_37 q3_34 q3_35 q3_36 q1_1 (by decide +kernel) rfl (by decide) ⟨by show (250 + 8 * y3.toInt.toNat) + 0 ≤ 600000; omega, by show (5300 + 24 * y3.toInt.toNat) + 0 ≤ 7302250; omega⟩ rfl (Nat.le_of_ble_eq_true rfl) dL_law_501 ?_
          rintro _ τ368 ⟨x371, rfl, i369, f370, b372, h374⟩
          have r375 : MA τ368 S I := mτ.fr iτ f370 (by decide) (by decide)
          have r376 : Rel τ368 := rτ.call f370 (by decide) (by decide)
          have r377 : RT τ368 := tτ.call f370 (by decide) (by decide)
          have r378 : CA τ368 S I := h374
          show MW p l e _ s m _ below meth c _ 4 G (250 + 8 * y3.toInt.toNat) (5300 + 24 * y3.toInt.toNat) 504 [some (.ref b), some (.ref (G.1 0 0)), some (.ref (G.1 22 0)), some (.int y3)] [.int x371] τ368
          refine m_pop C dL_law_504 rfl ?_
          refine m_aload_n C dL_law_505 rfl rfl ?_
          refine m_aload_n C dL_law_506 rfl rfl ?_
          refine m_iload_n C dL_law_507 rfl rfl ?_
          refine m_iconst (v := 1) C dL_law_508 (by decide) ?_
          refine m_iadd C dL_law_509 ?_
          refine m_topi (fun x379 ex379 => ?_)
          have tx379 : x379.toInt = y3.toInt + 1 := by rw [ex379, ti_addv b8 kc_1 (by decide), kt_1]
          have b380 : IV x379 1 3067 := by rw [ex379]; exact iv_add b8 kc_1 (by decide)
          refine m_sld C hX hbl hbA ⟨by omega, by omega⟩ dL_law_510 ?_
          refine m_eqs (w := x367) (by rw [ex367, show x379.toInt.toNat = x365.toInt.toNat by omega]) ?_
          refine m_callV (n := 1) (ci := 11) (st := []) C (c_X12_halvesS l G τ368 S I (x367) i369 r375) (by decide) (by decide) rfl rfl rfl q5_63 q5_60 q5_61 q5_62 q1_7 (by decide +kernel) rfl (by decide) ⟨by show (250 + 8 * y3.toInt.toNat) + 0 ≤ 600000; omega, by show (5300 + 24 * y3.toInt.toNat) + 0 ≤ 7302250; omega⟩ rfl (Nat.le_of_ble_eq_true rfl) dL_law_511 ?_
          rintro _ τ381 ⟨x384, rfl, i382, f383, b385, h387⟩
          have r388 : Rel τ381 := r376.call f383 (by decide) (by decide)
          have r389 : RT τ381 := r377.call f383 (by decide) (by decide)
          have r390 : CA τ381 S I := r378.fr f383 (by decide) (by decide)
          have r391 : MA τ381 S I := h387
          show MW p l e _ s m _ below meth c _ 4 G (250 + 8 * y3.toInt.toNat) (5300 + 24 * y3.toInt.toNat) 514 [some (.ref b), some (.ref (G.1 0 0)), some (.ref (G.1 22 0)), some (.int y3)] [.int x384] τ381
          refine m_pop C dL_law_514 rfl ?_
          refine m_goto (tgt := 1028) C dL_law_515 (by decide) ?_
          obtain ⟨x392, ex392⟩ : ∃ y : Int32, y = y3 + 6 := ⟨_, rfl⟩
          have tx392 : x392.toInt = y3.toInt + 6 := by rw [ex392, ti_addv b8 kc_6 (by decide), kt_6]
          have b393 : IV x392 6 3072 := by rw [ex392]; exact iv_add b8 kc_6 (by decide)
          refine m_iinc (v := x392) (L1 := [some (.ref b), some (.ref (G.1 0 0)), some (.ref (G.1 22 0)), some (.int x392)]) C dL_law_1028 rfl (by rw [ex392]; rfl) (by decide) rfl rfl ?_
          refine m_goto (tgt := 18) C dL_law_1031 (by decide) ?_
          refine m_widen (c2 := 250 + 8 * x392.toInt.toNat) (s2 := 5300 + 24 * x392.toInt.toNat) (by omega) (by omega) ?_
          exact ih18 τ381 x392 S I i382 r388 r389 r390 r391 (iv_wk b393 (by decide)) (by have q := hm18; omega)
        by_cases s394 : x11.toInt = 10
        · refine m_tableIn (tgt := 518) (off := 485) C dL_law_33 (by omega) (by omega) (by rw [s394]; rfl) (by decide) ?_
          have b395 : IV x11 10 10 := ⟨by omega, by omega⟩
          refine m_aload_n C dL_law_518 rfl rfl ?_
          refine m_callV (n := 0) (ci := 10) (st := []) C (c_X11_yearS l G τ S I  iτ cτ) (by decide) (by decide) rfl rfl rfl q3_97 q3_94 q3_95 q3_96 q1_1 (by decide +kernel) rfl (by decide) ⟨by show (250 + 8 * y3.toInt.toNat) + 0 ≤ 600000; omega, by show (5300 + 24 * y3.toInt.toNat) + 0 ≤ 7302250; omega⟩ rfl (Nat.le_of_ble_eq_true rfl) dL_law_519 ?_
          rintro _ τ396 ⟨x399, rfl, i397, f398, b400, h402⟩
          have r403 : MA τ396 S I := mτ.fr iτ f398 (by decide) (by decide)
          have r404 : Rel τ396 := rτ.call f398 (by decide) (by decide)
          have r405 : RT τ396 := tτ.call f398 (by decide) (by decide)
          have r406 : CA τ396 S I := h402
          show MW p l e _ s m _ below meth c _ 4 G (250 + 8 * y3.toInt.toNat) (5300 + 24 * y3.toInt.toNat) 522 [some (.ref b), some (.ref (G.1 0 0)), some (.ref (G.1 22 0)), some (.int y3)] [.int x399] τ396
          refine m_pop C dL_law_522 rfl ?_
          refine m_aload_n C dL_law_523 rfl rfl ?_
          refine m_callV (n := 0) (ci := 11) (st := []) C (c_X12_yearS l G τ396 S I  i397 r403) (by decide) (by decide) rfl rfl rfl q5_103 q5_100 q5_101 q5_102 q1_7 (by decide +kernel) rfl (by decide) ⟨by show (250 + 8 * y3.toInt.toNat) + 0 ≤ 600000; omega, by show (5300 + 24 * y3.toInt.toNat) + 0 ≤ 7302250; omega⟩ rfl (Nat.le_of_ble_eq_true rfl) dL_law_524 ?_
          rintro _ τ407 ⟨x410, rfl, i408, f409, b411, h413⟩
          have r414 : Rel τ407 := r404.call f409 (by decide) (by decide)
          have r415 : RT τ407 := r405.call f409 (by decide) (by decide)
          have r416 : CA τ407 S I := r406.fr f409 (by decide) (by decide)
          have r417 : MA τ407 S I := h413
          show MW p l e _ s m _ below meth c _ 4 G (250 + 8 * y3.toInt.toNat) (5300 + 24 * y3.toInt.toNat) 527 [some (.ref b), some (.ref (G.1 0 0)), some (.ref (G.1 22 0)), some (.int y3)] [.int x410] τ407
          refine m_pop C dL_law_527 rfl ?_
          refine m_goto (tgt := 1028) C dL_law_528 (by decide) ?_
          obtain ⟨x418, ex418⟩ : ∃ y : Int32, y = y3 + 6 := ⟨_, rfl⟩
          have tx418 : x418.toInt = y3.toInt + 6 := by rw [ex418, ti_addv b8 kc_6 (by decide), kt_6]
          have b419 : IV x418 6 3072 := by rw [ex418]; exact iv_add b8 kc_6 (by decide)
          refine m_iinc (v := x418) (L1 := [some (.ref b), some (.ref (G.1 0 0)), some (.ref (G.1 22 0)), some (.int x418)]) C dL_law_1028 rfl (by rw [ex418]; rfl) (by decide) rfl rfl ?_
          refine m_goto (tgt := 18) C dL_law_1031 (by decide) ?_
          refine m_widen (c2 := 250 + 8 * x418.toInt.toNat) (s2 := 5300 + 24 * x418.toInt.toNat) (by omega) (by omega) ?_
          exact ih18 τ407 x418 S I i408 r414 r415 r416 r417 (iv_wk b419 (by decide)) (by have q := hm18; omega)
        by_cases s420 : x11.toInt = 11
        · refine m_tableIn (tgt := 531) (off := 498) C dL_law_33 (by omega) (by omega) (by rw [s420]; rfl) (by decide) ?_
          have b421 : IV x11 11 11 := ⟨by omega, by omega⟩
          refine m_aload_n C dL_law_531 rfl rfl ?_
          refine m_callV (n := 0) (ci := 10) (st := []) C (c_X11_undoS l G τ S I  iτ cτ) (by decide) (by decide) rfl rfl rfl q3_106 q3_103 q3_104 q3_105 q1_1 (by decide +kernel) rfl (by decide) ⟨by show (250 + 8 * y3.toInt.toNat) + 0 ≤ 600000; omega, by show (5300 + 24 * y3.toInt.toNat) + 0 ≤ 7302250; omega⟩ rfl (Nat.le_of_ble_eq_true rfl) dL_law_532 ?_
          rintro _ τ422 ⟨x425, rfl, i423, f424, b426, h428⟩
          have r429 : MA τ422 S I := mτ.fr iτ f424 (by decide) (by decide)
          have r430 : Rel τ422 := rτ.call f424 (by decide) (by decide)
          have r431 : RT τ422 := tτ.call f424 (by decide) (by decide)
          have r432 : CA τ422 S I := h428
          show MW p l e _ s m _ below meth c _ 4 G (250 + 8 * y3.toInt.toNat) (5300 + 24 * y3.toInt.toNat) 535 [some (.ref b), some (.ref (G.1 0 0)), some (.ref (G.1 22 0)), some (.int y3)] [.int x425] τ422
          refine m_pop C dL_law_535 rfl ?_
          refine m_aload_n C dL_law_536 rfl rfl ?_
          refine m_callV (n := 0) (ci := 11) (st := []) C (c_X12_undoS l G τ422 S I  i423 r429) (by decide) (by decide) rfl rfl rfl q5_111 q5_108 q5_109 q5_110 q1_7 (by decide +kernel) rfl (by decide) ⟨by show (250 + 8 * y3.toInt.toNat) + 0 ≤ 600000; omega, by show (5300 + 24 * y3.toInt.toNat) + 0 ≤ 7302250; omega⟩ rfl (Nat.le_of_ble_eq_true rfl) dL_law_537 ?_
          rintro _ τ433 ⟨x436, rfl, i434, f435, b437, h439⟩
          have r440 : Rel τ433 := r430.call f435 (by decide) (by decide)
          have r441 : RT τ433 := r431.call f435 (by decide) (by decide)
          have r442 : CA τ433 S I := r432.fr f435 (by decide) (by decide)
          have r443 : MA τ433 S I := h439
          show MW p l e _ s m _ below meth c _ 4 G (250 + 8 * y3.toInt.toNat) (5300 + 24 * y3.toInt.toNat) 540 [some (.ref b), some (.ref (G.1 0 0)), some (.ref (G.1 22 0)), some (.int y3)] [.int x436] τ433
          refine m_pop C dL_law_540 rfl ?_
          refine m_goto (tgt := 1028) C dL_law_541 (by decide) ?_
          obtain ⟨x444, ex444⟩ : ∃ y : Int32, y = y3 + 6 := ⟨_, rfl⟩
          have tx444 : x444.toInt = y3.toInt + 6 := by rw [ex444, ti_addv b8 kc_6 (by decide), kt_6]
          have b445 : IV x444 6 3072 := by rw [ex444]; exact iv_add b8 kc_6 (by decide)
          refine m_iinc (v := x444) (L1 := [some (.ref b), some (.ref (G.1 0 0)), some (.ref (G.1 22 0)), some (.int x444)]) C dL_law_1028 rfl (by rw [ex444]; rfl) (by decide) rfl rfl ?_
          refine m_goto (tgt := 18) C dL_law_1031 (by decide) ?_
          refine m_widen (c2 := 250 + 8 * x444.toInt.toNat) (s2 := 5300 + 24 * x444.toInt.toNat) (by omega) (by omega) ?_
          exact ih18 τ433 x444 S I i434 r440 r441 r442 r443 (iv_wk b445 (by decide)) (by have q := hm18; omega)
        by_cases s446 : x11.toInt = 12
        · refine m_tableIn (tgt := 544) (off := 511) C dL_law_33 (by omega) (by omega) (by rw [s446]; rfl) (by decide) ?_
          have b447 : IV x11 12 12 := ⟨by omega, by omega⟩
          refine m_aload_n C dL_law_544 rfl rfl ?_
          refine m_aload_n C dL_law_545 rfl rfl ?_
          refine m_iload_n C dL_law_546 rfl rfl ?_
          refine m_iconst (v := 1) C dL_law_547 (by decide) ?_
          refine m_iadd C dL_law_548 ?_
          refine m_topi (fun x448 ex448 => ?_)
          have tx448 : x448.toInt = y3.toInt + 1 := by rw [ex448, ti_addv b8 kc_1 (by decide), kt_1]
          have b449 : IV x448 1 3067 := by rw [ex448]; exact iv_add b8 kc_1 (by decide)
          refine m_sld C hX hbl hbA ⟨by omega, by omega⟩ dL_law_549 ?_
          refine m_topi (fun x450 ex450 => ?_)
          refine m_aload_n C dL_law_550 rfl rfl ?_
          refine m_iload_n C dL_law_551 rfl rfl ?_
          refine m_iconst (v := 2) C dL_law_552 (by decide) ?_
          refine m_iadd C dL_law_553 ?_
          refine m_topi (fun x451 ex451 => ?_)
          have tx451 : x451.toInt = y3.toInt + 2 := by rw [ex451, ti_addv b8 kc_2 (by decide), kt_2]
          have b452 : IV x451 2 3068 := by rw [ex451]; exact iv_add b8 kc_2 (by decide)
          refine m_sld C hX hbl hbA ⟨by omega, by omega⟩ dL_law_554 ?_
          refine m_topi (fun x453 ex453 => ?_)
          refine m_callV (n := 2) (ci := 10) (st := []) C (c_X11_person l G τ (x450) (x453) iτ ) (by decide) (by decide) rfl rfl rfl q3_110 q3_107 q3_108 q3_109 q1_1 (by decide +kernel) rfl (by decide) ⟨by show (250 + 8 * y3.toInt.toNat) + 0 ≤ 600000; omega, by show (5300 + 24 * y3.toInt.toNat) + 0 ≤ 7302250; omega⟩ rfl (Nat.le_of_ble_eq_true rfl) dL_law_555 ?_
          rintro _ τ454 ⟨x457, rfl, i455, f456, b458⟩
          have r461 : MA τ454 S I := mτ.fr iτ f456 (by decide) (by decide)
          have r462 : Rel τ454 := rτ.call f456 (by decide) (by decide)
          have r463 : RT τ454 := tτ.call f456 (by decide) (by decide)
          have r464 : CA τ454 S I := cτ.fr f456 (by decide) (by decide)
          show MW p l e _ s m _ below meth c _ 4 G (250 + 8 * y3.toInt.toNat) (5300 + 24 * y3.toInt.toNat) 558 [some (.ref b), some (.ref (G.1 0 0)), some (.ref (G.1 22 0)), some (.int y3)] [.int x457] τ454
          refine m_pop C dL_law_558 rfl ?_
          refine m_aload_n C dL_law_559 rfl rfl ?_
          refine m_aload_n C dL_law_560 rfl rfl ?_
          refine m_iload_n C dL_law_561 rfl rfl ?_
          refine m_iconst (v := 1) C dL_law_562 (by decide) ?_
          refine m_iadd C dL_law_563 ?_
          refine m_topi (fun x465 ex465 => ?_)
          have tx465 : x465.toInt = y3.toInt + 1 := by rw [ex465, ti_addv b8 kc_1 (by decide), kt_1]
          have b466 : IV x465 1 3067 := by rw [ex465]; exact iv_add b8 kc_1 (by decide)
          refine m_sld C hX hbl hbA ⟨by omega, by omega⟩ dL_law_564 ?_
          refine m_eqs (w := x450) (by rw [ex450, show x465.toInt.toNat = x448.toInt.toNat by omega]) ?_
          refine m_aload_n C dL_law_565 rfl rfl ?_
          refine m_iload_n C dL_law_566 rfl rfl ?_
          refine m_iconst (v := 2) C dL_law_567 (by decide) ?_
          refine m_iadd C dL_law_568 ?_
          refine m_topi (fun x467 ex467 => ?_)
          have tx467 : x467.toInt = y3.toInt + 2 := by rw [ex467, ti_addv b8 kc_2 (by decide), kt_2]
          have b468 : IV x467 2 3068 := by rw [ex467]; exact iv_add b8 kc_2 (by decide)
          refine m_sld C hX hbl hbA ⟨by omega, by omega⟩ dL_law_569 ?_
          refine m_eqs (w := x453) (by rw [ex453, show x467.toInt.toNat = x451.toInt.toNat by omega]) ?_
          refine m_callV (n := 2) (ci := 11) (st := []) C (c_X12_person l G τ454 (x450) (x453) i455 ) (by decide) (by decide) rfl rfl rfl q5_115 q5_112 q5_113 q5_114 q1_7 (by decide +kernel) rfl (by decide) ⟨by show (250 + 8 * y3.toInt.toNat) + 0 ≤ 600000; omega, by show (5300 + 24 * y3.toInt.toNat) + 0 ≤ 7302250; omega⟩ rfl (Nat.le_of_ble_eq_true rfl) dL_law_570 ?_
          rintro _ τ469 ⟨x472, rfl, i470, f471, b473⟩
          have r476 : Rel τ469 := r462.call f471 (by decide) (by decide)
          have r477 : RT τ469 := r463.call f471 (by decide) (by decide)
          have r478 : CA τ469 S I := r464.fr f471 (by decide) (by decide)
          have r479 : MA τ469 S I := r461.fr i455 f471 (by decide) (by decide)
          show MW p l e _ s m _ below meth c _ 4 G (250 + 8 * y3.toInt.toNat) (5300 + 24 * y3.toInt.toNat) 573 [some (.ref b), some (.ref (G.1 0 0)), some (.ref (G.1 22 0)), some (.int y3)] [.int x472] τ469
          refine m_pop C dL_law_573 rfl ?_
          refine m_goto (tgt := 1028) C dL_law_574 (by decide) ?_
          obtain ⟨x480, ex480⟩ : ∃ y : Int32, y = y3 + 6 := ⟨_, rfl⟩
          have tx480 : x480.toInt = y3.toInt + 6 := by rw [ex480, ti_addv b8 kc_6 (by decide), kt_6]
          have b481 : IV x480 6 3072 := by rw [ex480]; exact iv_add b8 kc_6 (by decide)
          refine m_iinc (v := x480) (L1 := [some (.ref b), some (.ref (G.1 0 0)), some (.ref (G.1 22 0)), some (.int x480)]) C dL_law_1028 rfl (by rw [ex480]; rfl) (by decide) rfl rfl ?_
          refine m_goto (tgt := 18) C dL_law_1031 (by decide) ?_
          refine m_widen (c2 := 250 + 8 * x480.toInt.toNat) (s2 := 5300 + 24 * x480.toInt.toNat) (by omega) (by omega) ?_
          exact ih18 τ469 x480 S I i470 r476 r477 r478 r479 (iv_wk b481 (by decide)) (by have q := hm18; omega)
        by_cases s482 : x11.toInt = 13
        · refine m_tableIn (tgt := 577) (off := 544) C dL_law_33 (by omega) (by omega) (by rw [s482]; rfl) (by decide) ?_
          have b483 : IV x11 13 13 := ⟨by omega, by omega⟩
          refine m_aload_n C dL_law_577 rfl rfl ?_
          refine m_aload_n C dL_law_578 rfl rfl ?_
          refine m_iload_n C dL_law_579 rfl rfl ?_
          refine m_iconst (v := 1) C dL_law_580 (by decide) ?_
          refine m_iadd C dL_law_581 ?_
          refine m_topi (fun x484 ex484 => ?_)
          have tx484 : x484.toInt = y3.toInt + 1 := by rw [ex484, ti_addv b8 kc_1 (by decide), kt_1]
          have b485 : IV x484 1 3067 := by rw [ex484]; exact iv_add b8 kc_1 (by decide)
          refine m_sld C hX hbl hbA ⟨by omega, by omega⟩ dL_law_582 ?_
          refine m_topi (fun x486 ex486 => ?_)
          refine m_callV (n := 1) (ci := 10) (st := []) C (c_X11_lean l G τ (x486) iτ ) (by decide) (by decide) rfl rfl rfl q3_120 q3_117 q3_118 q3_119 q1_1 (by decide +kernel) rfl (by decide) ⟨by show (250 + 8 * y3.toInt.toNat) + 0 ≤ 600000; omega, by show (5300 + 24 * y3.toInt.toNat) + 0 ≤ 7302250; omega⟩ rfl (Nat.le_of_ble_eq_true rfl) dL_law_583 ?_
          rintro _ τ487 ⟨x490, rfl, i488, f489, b491⟩
          have r494 : MA τ487 S I := mτ.fr iτ f489 (by decide) (by decide)
          have r495 : Rel τ487 := rτ.call f489 (by decide) (by decide)
          have r496 : RT τ487 := tτ.call f489 (by decide) (by decide)
          have r497 : CA τ487 S I := cτ.fr f489 (by decide) (by decide)
          show MW p l e _ s m _ below meth c _ 4 G (250 + 8 * y3.toInt.toNat) (5300 + 24 * y3.toInt.toNat) 586 [some (.ref b), some (.ref (G.1 0 0)), some (.ref (G.1 22 0)), some (.int y3)] [.int x490] τ487
          refine m_pop C dL_law_586 rfl ?_
          refine m_aload_n C dL_law_587 rfl rfl ?_
          refine m_aload_n C dL_law_588 rfl rfl ?_
          refine m_iload_n C dL_law_589 rfl rfl ?_
          refine m_iconst (v := 1) C dL_law_590 (by decide) ?_
          refine m_iadd C dL_law_591 ?_
          refine m_topi (fun x498 ex498 => ?_)
          have tx498 : x498.toInt = y3.toInt + 1 := by rw [ex498, ti_addv b8 kc_1 (by decide), kt_1]
          have b499 : IV x498 1 3067 := by rw [ex498]; exact iv_add b8 kc_1 (by decide)
          refine m_sld C hX hbl hbA ⟨by omega, by omega⟩ dL_law_592 ?_
          refine m_eqs (w := x486) (by rw [ex486, show x498.toInt.toNat = x484.toInt.toNat by omega]) ?_
          refine m_callV (n := 1) (ci := 11) (st := []) C (c_X12_lean l G τ487 (x486) i488 ) (by decide) (by decide) rfl rfl rfl q5_120 q5_117 q5_118 q5_119 q1_7 (by decide +kernel) rfl (by decide) ⟨by show (250 + 8 * y3.toInt.toNat) + 0 ≤ 600000; omega, by show (5300 + 24 * y3.toInt.toNat) + 0 ≤ 7302250; omega⟩ rfl (Nat.le_of_ble_eq_true rfl) dL_law_593 ?_
          rintro _ τ500 ⟨x503, rfl, i501, f502, b504⟩
          have r507 : Rel τ500 := r495.call f502 (by decide) (by decide)
          have r508 : RT τ500 := r496.call f502 (by decide) (by decide)
          have r509 : CA τ500 S I := r497.fr f502 (by decide) (by decide)
          have r510 : MA τ500 S I := r494.fr i488 f502 (by decide) (by decide)
          show MW p l e _ s m _ below meth c _ 4 G (250 + 8 * y3.toInt.toNat) (5300 + 24 * y3.toInt.toNat) 596 [some (.ref b), some (.ref (G.1 0 0)), some (.ref (G.1 22 0)), some (.int y3)] [.int x503] τ500
          refine m_pop C dL_law_596 rfl ?_
          refine m_goto (tgt := 1028) C dL_law_597 (by decide) ?_
          obtain ⟨x511, ex511⟩ : ∃ y : Int32, y = y3 + 6 := ⟨_, rfl⟩
          have tx511 : x511.toInt = y3.toInt + 6 := by rw [ex511, ti_addv b8 kc_6 (by decide), kt_6]
          have b512 : IV x511 6 3072 := by rw [ex511]; exact iv_add b8 kc_6 (by decide)
          refine m_iinc (v := x511) (L1 := [some (.ref b), some (.ref (G.1 0 0)), some (.ref (G.1 22 0)), some (.int x511)]) C dL_law_1028 rfl (by rw [ex511]; rfl) (by decide) rfl rfl ?_
          refine m_goto (tgt := 18) C dL_law_1031 (by decide) ?_
          refine m_widen (c2 := 250 + 8 * x511.toInt.toNat) (s2 := 5300 + 24 * x511.toInt.toNat) (by omega) (by omega) ?_
          exact ih18 τ500 x511 S I i501 r507 r508 r509 r510 (iv_wk b512 (by decide)) (by have q := hm18; omega)
        by_cases s513 : x11.toInt = 14
        · refine m_tableIn (tgt := 600) (off := 567) C dL_law_33 (by omega) (by omega) (by rw [s513]; rfl) (by decide) ?_
          have b514 : IV x11 14 14 := ⟨by omega, by omega⟩
          refine m_aload_n C dL_law_600 rfl rfl ?_
          refine m_aload_n C dL_law_601 rfl rfl ?_
          refine m_iload_n C dL_law_602 rfl rfl ?_
          refine m_iconst (v := 1) C dL_law_603 (by decide) ?_
          refine m_iadd C dL_law_604 ?_
          refine m_topi (fun x515 ex515 => ?_)
          have tx515 : x515.toInt = y3.toInt + 1 := by rw [ex515, ti_addv b8 kc_1 (by decide), kt_1]
          have b516 : IV x515 1 3067 := by rw [ex515]; exact iv_add b8 kc_1 (by decide)
          refine m_sld C hX hbl hbA ⟨by omega, by omega⟩ dL_law_605 ?_
          refine m_topi (fun x517 ex517 => ?_)
          refine m_callV (n := 1) (ci := 10) (st := []) C (c_X11_worstS l G τ (x517) iτ ) (by decide) (by decide) rfl rfl rfl q3_125 q3_122 q3_123 q3_124 q1_1 (by decide +kernel) rfl (by decide) ⟨by show (250 + 8 * y3.toInt.toNat) + 0 ≤ 600000; omega, by show (5300 + 24 * y3.toInt.toNat) + 0 ≤ 7302250; omega⟩ rfl (Nat.le_of_ble_eq_true rfl) dL_law_606 ?_
          rintro _ τ518 ⟨x521, rfl, i519, f520, b522, h524⟩
          have r525 : MA τ518 S I := mτ.fr iτ f520 (by decide) (by decide)
          have r526 : Rel τ518 := rτ.call f520 (by decide) (by decide)
          have r527 : RT τ518 := tτ.call f520 (by decide) (by decide)
          have r528 : CA τ518 S I := cτ.sf f520 h524 (by decide) (by decide)
          show MW p l e _ s m _ below meth c _ 4 G (250 + 8 * y3.toInt.toNat) (5300 + 24 * y3.toInt.toNat) 609 [some (.ref b), some (.ref (G.1 0 0)), some (.ref (G.1 22 0)), some (.int y3)] [.int x521] τ518
          refine m_pop C dL_law_609 rfl ?_
          refine m_aload_n C dL_law_610 rfl rfl ?_
          refine m_aload_n C dL_law_611 rfl rfl ?_
          refine m_iload_n C dL_law_612 rfl rfl ?_
          refine m_iconst (v := 1) C dL_law_613 (by decide) ?_
          refine m_iadd C dL_law_614 ?_
          refine m_topi (fun x529 ex529 => ?_)
          have tx529 : x529.toInt = y3.toInt + 1 := by rw [ex529, ti_addv b8 kc_1 (by decide), kt_1]
          have b530 : IV x529 1 3067 := by rw [ex529]; exact iv_add b8 kc_1 (by decide)
          refine m_sld C hX hbl hbA ⟨by omega, by omega⟩ dL_law_615 ?_
          refine m_eqs (w := x517) (by rw [ex517, show x529.toInt.toNat = x515.toInt.toNat by omega]) ?_
          refine m_callV (n := 1) (ci := 11) (st := []) C (c_X12_worstS l G τ518 (x517) i519 ) (by decide) (by decide) rfl rfl rfl q5_124 q5_121 q5_122 q5_123 q1_7 (by decide +kernel) rfl (by decide) ⟨by show (250 + 8 * y3.toInt.toNat) + 0 ≤ 600000; omega, by show (5300 + 24 * y3.toInt.toNat) + 0 ≤ 7302250; omega⟩ rfl (Nat.le_of_ble_eq_true rfl) dL_law_616 ?_
          rintro _ τ531 ⟨x534, rfl, i532, f533, b535, h537⟩
          have r538 : Rel τ531 := r526.call f533 (by decide) (by decide)
          have r539 : RT τ531 := r527.call f533 (by decide) (by decide)
          have r540 : CA τ531 S I := r528.fr f533 (by decide) (by decide)
          have r541 : MA τ531 S I := r525.sf i519 f533 h537 (by decide) (by decide)
          show MW p l e _ s m _ below meth c _ 4 G (250 + 8 * y3.toInt.toNat) (5300 + 24 * y3.toInt.toNat) 619 [some (.ref b), some (.ref (G.1 0 0)), some (.ref (G.1 22 0)), some (.int y3)] [.int x534] τ531
          refine m_pop C dL_law_619 rfl ?_
          refine m_goto (tgt := 1028) C dL_law_620 (by decide) ?_
          obtain ⟨x542, ex542⟩ : ∃ y : Int32, y = y3 + 6 := ⟨_, rfl⟩
          have tx542 : x542.toInt = y3.toInt + 6 := by rw [ex542, ti_addv b8 kc_6 (by decide), kt_6]
          have b543 : IV x542 6 3072 := by rw [ex542]; exact iv_add b8 kc_6 (by decide)
          refine m_iinc (v := x542) (L1 := [some (.ref b), some (.ref (G.1 0 0)), some (.ref (G.1 22 0)), some (.int x542)]) C dL_law_1028 rfl (by rw [ex542]; rfl) (by decide) rfl rfl ?_
          refine m_goto (tgt := 18) C dL_law_1031 (by decide) ?_
          refine m_widen (c2 := 250 + 8 * x542.toInt.toNat) (s2 := 5300 + 24 * x542.toInt.toNat) (by omega) (by omega) ?_
          exact ih18 τ531 x542 S I i532 r538 r539 r540 r541 (iv_wk b543 (by decide)) (by have q := hm18; omega)
        by_cases s544 : x11.toInt = 15
        · refine m_tableIn (tgt := 623) (off := 590) C dL_law_33 (by omega) (by omega) (by rw [s544]; rfl) (by decide) ?_
          have b545 : IV x11 15 15 := ⟨by omega, by omega⟩
          refine m_aload_n C dL_law_623 rfl rfl ?_
          refine m_callV (n := 0) (ci := 10) (st := []) C (c_X11_mostS l G τ  iτ ) (by decide) (by decide) rfl rfl rfl q3_139 q3_136 q3_137 q3_138 q1_1 (by decide +kernel) rfl (by decide) ⟨by show (250 + 8 * y3.toInt.toNat) + 0 ≤ 600000; omega, by show (5300 + 24 * y3.toInt.toNat) + 0 ≤ 7302250; omega⟩ rfl (Nat.le_of_ble_eq_true rfl) dL_law_624 ?_
          rintro _ τ546 ⟨x549, rfl, i547, f548, b550, h552⟩
          have r553 : MA τ546 S I := mτ.fr iτ f548 (by decide) (by decide)
          have r554 : Rel τ546 := rτ.call f548 (by decide) (by decide)
          have r555 : RT τ546 := tτ.call f548 (by decide) (by decide)
          have r556 : CA τ546 S I := cτ.sf f548 h552 (by decide) (by decide)
          show MW p l e _ s m _ below meth c _ 4 G (250 + 8 * y3.toInt.toNat) (5300 + 24 * y3.toInt.toNat) 627 [some (.ref b), some (.ref (G.1 0 0)), some (.ref (G.1 22 0)), some (.int y3)] [.int x549] τ546
          refine m_pop C dL_law_627 rfl ?_
          refine m_aload_n C dL_law_628 rfl rfl ?_
          refine m_callV (n := 0) (ci := 11) (st := []) C (c_X12_mostS l G τ546  i547 ) (by decide) (by decide) rfl rfl rfl q5_136 q5_133 q5_134 q5_135 q1_7 (by decide +kernel) rfl (by decide) ⟨by show (250 + 8 * y3.toInt.toNat) + 0 ≤ 600000; omega, by show (5300 + 24 * y3.toInt.toNat) + 0 ≤ 7302250; omega⟩ rfl (Nat.le_of_ble_eq_true rfl) dL_law_629 ?_
          rintro _ τ557 ⟨x560, rfl, i558, f559, b561, h563⟩
          have r564 : Rel τ557 := r554.call f559 (by decide) (by decide)
          have r565 : RT τ557 := r555.call f559 (by decide) (by decide)
          have r566 : CA τ557 S I := r556.fr f559 (by decide) (by decide)
          have r567 : MA τ557 S I := r553.sf i547 f559 h563 (by decide) (by decide)
          show MW p l e _ s m _ below meth c _ 4 G (250 + 8 * y3.toInt.toNat) (5300 + 24 * y3.toInt.toNat) 632 [some (.ref b), some (.ref (G.1 0 0)), some (.ref (G.1 22 0)), some (.int y3)] [.int x560] τ557
          refine m_pop C dL_law_632 rfl ?_
          refine m_goto (tgt := 1028) C dL_law_633 (by decide) ?_
          obtain ⟨x568, ex568⟩ : ∃ y : Int32, y = y3 + 6 := ⟨_, rfl⟩
          have tx568 : x568.toInt = y3.toInt + 6 := by rw [ex568, ti_addv b8 kc_6 (by decide), kt_6]
          have b569 : IV x568 6 3072 := by rw [ex568]; exact iv_add b8 kc_6 (by decide)
          refine m_iinc (v := x568) (L1 := [some (.ref b), some (.ref (G.1 0 0)), some (.ref (G.1 22 0)), some (.int x568)]) C dL_law_1028 rfl (by rw [ex568]; rfl) (by decide) rfl rfl ?_
          refine m_goto (tgt := 18) C dL_law_1031 (by decide) ?_
          refine m_widen (c2 := 250 + 8 * x568.toInt.toNat) (s2 := 5300 + 24 * x568.toInt.toNat) (by omega) (by omega) ?_
          exact ih18 τ557 x568 S I i558 r564 r565 r566 r567 (iv_wk b569 (by decide)) (by have q := hm18; omega)
        by_cases s570 : x11.toInt = 16
        · refine m_tableIn (tgt := 636) (off := 603) C dL_law_33 (by omega) (by omega) (by rw [s570]; rfl) (by decide) ?_
          have b571 : IV x11 16 16 := ⟨by omega, by omega⟩
          refine m_aload_n C dL_law_636 rfl rfl ?_
          refine m_aload_n C dL_law_637 rfl rfl ?_
          refine m_iload_n C dL_law_638 rfl rfl ?_
          refine m_iconst (v := 1) C dL_law_639 (by decide) ?_
          refine m_iadd C dL_law_640 ?_
          refine m_topi (fun x572 ex572 => ?_)
          have tx572 : x572.toInt = y3.toInt + 1 := by rw [ex572, ti_addv b8 kc_1 (by decide), kt_1]
          have b573 : IV x572 1 3067 := by rw [ex572]; exact iv_add b8 kc_1 (by decide)
          refine m_sld C hX hbl hbA ⟨by omega, by omega⟩ dL_law_641 ?_
          refine m_topi (fun x574 ex574 => ?_)
          refine m_aload_n C dL_law_642 rfl rfl ?_
          refine m_iload_n C dL_law_643 rfl rfl ?_
          refine m_iconst (v := 2) C dL_law_644 (by decide) ?_
          refine m_iadd C dL_law_645 ?_
          refine m_topi (fun x575 ex575 => ?_)
          have tx575 : x575.toInt = y3.toInt + 2 := by rw [ex575, ti_addv b8 kc_2 (by decide), kt_2]
          have b576 : IV x575 2 3068 := by rw [ex575]; exact iv_add b8 kc_2 (by decide)
          refine m_sld C hX hbl hbA ⟨by omega, by omega⟩ dL_law_646 ?_
          refine m_topi (fun x577 ex577 => ?_)
          refine m_aload_n C dL_law_647 rfl rfl ?_
          refine m_iload_n C dL_law_648 rfl rfl ?_
          refine m_iconst (v := 3) C dL_law_649 (by decide) ?_
          refine m_iadd C dL_law_650 ?_
          refine m_topi (fun x578 ex578 => ?_)
          have tx578 : x578.toInt = y3.toInt + 3 := by rw [ex578, ti_addv b8 kc_3 (by decide), kt_3]
          have b579 : IV x578 3 3069 := by rw [ex578]; exact iv_add b8 kc_3 (by decide)
          refine m_sld C hX hbl hbA ⟨by omega, by omega⟩ dL_law_651 ?_
          refine m_topi (fun x580 ex580 => ?_)
          refine m_callV (n := 3) (ci := 10) (st := []) C (c_X11_twoS l G τ (x574) (x577) (x580) iτ ) (by decide) (by decide) rfl rfl rfl q3_157 q3_154 q3_155 q3_156 q1_1 (by decide +kernel) rfl (by decide) ⟨by show (250 + 8 * y3.toInt.toNat) + 0 ≤ 600000; omega, by show (5300 + 24 * y3.toInt.toNat) + 0 ≤ 7302250; omega⟩ rfl (Nat.le_of_ble_eq_true rfl) dL_law_652 ?_
          rintro _ τ581 ⟨x584, rfl, i582, f583, b585, h587⟩
          have r588 : MA τ581 S I := mτ.fr iτ f583 (by decide) (by decide)
          have r589 : Rel τ581 := rτ.call f583 (by decide) (by decide)
          have r590 : RT τ581 := tτ.call f583 (by decide) (by decide)
          have r591 : CA τ581 S I := cτ.sf f583 h587 (by decide) (by decide)
          show MW p l e _ s m _ below meth c _ 4 G (250 + 8 * y3.toInt.toNat) (5300 + 24 * y3.toInt.toNat) 655 [some (.ref b), some (.ref (G.1 0 0)), some (.ref (G.1 22 0)), some (.int y3)] [.int x584] τ581
          refine m_pop C dL_law_655 rfl ?_
          refine m_aload_n C dL_law_656 rfl rfl ?_
          refine m_aload_n C dL_law_657 rfl rfl ?_
          refine m_iload_n C dL_law_658 rfl rfl ?_
          refine m_iconst (v := 1) C dL_law_659 (by decide) ?_
          refine m_iadd C dL_law_660 ?_
          refine m_topi (fun x592 ex592 => ?_)
          have tx592 : x592.toInt = y3.toInt + 1 := by rw [ex592, ti_addv b8 kc_1 (by decide), kt_1]
          have b593 : IV x592 1 3067 := by rw [ex592]; exact iv_add b8 kc_1 (by decide)
          refine m_sld C hX hbl hbA ⟨by omega, by omega⟩ dL_law_661 ?_
          refine m_eqs (w := x574) (by rw [ex574, show x592.toInt.toNat = x572.toInt.toNat by omega]) ?_
          refine m_aload_n C dL_law_662 rfl rfl ?_
          refine m_iload_n C dL_law_663 rfl rfl ?_
          refine m_iconst (v := 2) C dL_law_664 (by decide) ?_
          refine m_iadd C dL_law_665 ?_
          refine m_topi (fun x594 ex594 => ?_)
          have tx594 : x594.toInt = y3.toInt + 2 := by rw [ex594, ti_addv b8 kc_2 (by decide), kt_2]
          have b595 : IV x594 2 3068 := by rw [ex594]; exact iv_add b8 kc_2 (by decide)
          refine m_sld C hX hbl hbA ⟨by omega, by omega⟩ dL_law_666 ?_
          refine m_eqs (w := x577) (by rw [ex577, show x594.toInt.toNat = x575.toInt.toNat by omega]) ?_
          refine m_aload_n C dL_law_667 rfl rfl ?_
          refine m_iload_n C dL_law_668 rfl rfl ?_
          refine m_iconst (v := 3) C dL_law_669 (by decide) ?_
          refine m_iadd C dL_law_670 ?_
          refine m_topi (fun x596 ex596 => ?_)
          have tx596 : x596.toInt = y3.toInt + 3 := by rw [ex596, ti_addv b8 kc_3 (by decide), kt_3]
          have b597 : IV x596 3 3069 := by rw [ex596]; exact iv_add b8 kc_3 (by decide)
          refine m_sld C hX hbl hbA ⟨by omega, by omega⟩ dL_law_671 ?_
          refine m_eqs (w := x580) (by rw [ex580, show x596.toInt.toNat = x578.toInt.toNat by omega]) ?_
          refine m_callV (n := 3) (ci := 11) (st := []) C (c_X12_twoS l G τ581 (x574) (x577) (x580) i582 ) (by decide) (by decide) rfl rfl rfl q5_146 q5_143 q5_144 q5_145 q1_7 (by decide +kernel) rfl (by decide) ⟨by show (250 + 8 * y3.toInt.toNat) + 0 ≤ 600000; omega, by show (5300 + 24 * y3.toInt.toNat) + 0 ≤ 7302250; omega⟩ rfl (Nat.le_of_ble_eq_true rfl) dL_law_672 ?_
          rintro _ τ598 ⟨x601, rfl, i599, f600, b602, h604⟩
          have r605 : Rel τ598 := r589.call f600 (by decide) (by decide)
          have r606 : RT τ598 := r590.call f600 (by decide) (by decide)
          have r607 : CA τ598 S I := r591.fr f600 (by decide) (by decide)
          have r608 : MA τ598 S I := r588.sf i582 f600 h604 (by decide) (by decide)
          show MW p l e _ s m _ below meth c _ 4 G (250 + 8 * y3.toInt.toNat) (5300 + 24 * y3.toInt.toNat) 675 [some (.ref b), some (.ref (G.1 0 0)), some (.ref (G.1 22 0)), some (.int y3)] [.int x601] τ598
          refine m_pop C dL_law_675 rfl ?_
          refine m_goto (tgt := 1028) C dL_law_676 (by decide) ?_
          obtain ⟨x609, ex609⟩ : ∃ y : Int32, y = y3 + 6 := ⟨_, rfl⟩
          have tx609 : x609.toInt = y3.toInt + 6 := by rw [ex609, ti_addv b8 kc_6 (by decide), kt_6]
          have b610 : IV x609 6 3072 := by rw [ex609]; exact iv_add b8 kc_6 (by decide)
          refine m_iinc (v := x609) (L1 := [some (.ref b), some (.ref (G.1 0 0)), some (.ref (G.1 22 0)), some (.int x609)]) C dL_law_1028 rfl (by rw [ex609]; rfl) (by decide) rfl rfl ?_
          refine m_goto (tgt := 18) C dL_law_1031 (by decide) ?_
          refine m_widen (c2 := 250 + 8 * x609.toInt.toNat) (s2 := 5300 + 24 * x609.toInt.toNat) (by omega) (by omega) ?_
          exact ih18 τ598 x609 S I i599 r605 r606 r607 r608 (iv_wk b610 (by decide)) (by have q := hm18; omega)
        by_cases s611 : x11.toInt = 17
        · refine m_tableIn (tgt := 679) (off := 646) C dL_law_33 (by omega) (by omega) (by rw [s611]; rfl) (by decide) ?_
          have b612 : IV x11 17 17 := ⟨by omega, by omega⟩
          refine m_aload_n C dL_law_679 rfl rfl ?_
          refine m_aload_n C dL_law_680 rfl rfl ?_
          refine m_iload_n C dL_law_681 rfl rfl ?_
          refine m_iconst (v := 1) C dL_law_682 (by decide) ?_
          refine m_iadd C dL_law_683 ?_
          refine m_topi (fun x613 ex613 => ?_)
          have tx613 : x613.toInt = y3.toInt + 1 := by rw [ex613, ti_addv b8 kc_1 (by decide), kt_1]
          have b614 : IV x613 1 3067 := by rw [ex613]; exact iv_add b8 kc_1 (by decide)
          refine m_sld C hX hbl hbA ⟨by omega, by omega⟩ dL_law_684 ?_
          refine m_topi (fun x615 ex615 => ?_)
          refine m_callV (n := 1) (ci := 10) (st := []) C (c_X11_stonesS l G τ (x615) iτ ) (by decide) (by decide) rfl rfl rfl q3_170 q3_167 q3_168 q3_169 q1_1 (by decide +kernel) rfl (by decide) ⟨by show (250 + 8 * y3.toInt.toNat) + 0 ≤ 600000; omega, by show (5300 + 24 * y3.toInt.toNat) + 0 ≤ 7302250; omega⟩ rfl (Nat.le_of_ble_eq_true rfl) dL_law_685 ?_
          rintro _ τ616 ⟨x619, rfl, i617, f618, b620, h622⟩
          have r623 : MA τ616 S I := mτ.fr iτ f618 (by decide) (by decide)
          have r624 : Rel τ616 := rτ.call f618 (by decide) (by decide)
          have r625 : RT τ616 := tτ.call f618 (by decide) (by decide)
          have r626 : CA τ616 S I := cτ.sf f618 h622 (by decide) (by decide)
          show MW p l e _ s m _ below meth c _ 4 G (250 + 8 * y3.toInt.toNat) (5300 + 24 * y3.toInt.toNat) 688 [some (.ref b), some (.ref (G.1 0 0)), some (.ref (G.1 22 0)), some (.int y3)] [.int x619] τ616
          refine m_pop C dL_law_688 rfl ?_
          refine m_aload_n C dL_law_689 rfl rfl ?_
          refine m_aload_n C dL_law_690 rfl rfl ?_
          refine m_iload_n C dL_law_691 rfl rfl ?_
          refine m_iconst (v := 1) C dL_law_692 (by decide) ?_
          refine m_iadd C dL_law_693 ?_
          refine m_topi (fun x627 ex627 => ?_)
          have tx627 : x627.toInt = y3.toInt + 1 := by rw [ex627, ti_addv b8 kc_1 (by decide), kt_1]
          have b628 : IV x627 1 3067 := by rw [ex627]; exact iv_add b8 kc_1 (by decide)
          refine m_sld C hX hbl hbA ⟨by omega, by omega⟩ dL_law_694 ?_
          refine m_eqs (w := x615) (by rw [ex615, show x627.toInt.toNat = x613.toInt.toNat by omega]) ?_
          refine m_callV (n := 1) (ci := 11) (st := []) C (c_X12_stonesS l G τ616 (x615) i617 ) (by decide) (by decide) rfl rfl rfl q5_150 q5_147 q5_148 q5_149 q1_7 (by decide +kernel) rfl (by decide) ⟨by show (250 + 8 * y3.toInt.toNat) + 0 ≤ 600000; omega, by show (5300 + 24 * y3.toInt.toNat) + 0 ≤ 7302250; omega⟩ rfl (Nat.le_of_ble_eq_true rfl) dL_law_695 ?_
          rintro _ τ629 ⟨x632, rfl, i630, f631, b633, h635⟩
          have r636 : Rel τ629 := r624.call f631 (by decide) (by decide)
          have r637 : RT τ629 := r625.call f631 (by decide) (by decide)
          have r638 : CA τ629 S I := r626.fr f631 (by decide) (by decide)
          have r639 : MA τ629 S I := r623.sf i617 f631 h635 (by decide) (by decide)
          show MW p l e _ s m _ below meth c _ 4 G (250 + 8 * y3.toInt.toNat) (5300 + 24 * y3.toInt.toNat) 698 [some (.ref b), some (.ref (G.1 0 0)), some (.ref (G.1 22 0)), some (.int y3)] [.int x632] τ629
          refine m_pop C dL_law_698 rfl ?_
          refine m_goto (tgt := 1028) C dL_law_699 (by decide) ?_
          obtain ⟨x640, ex640⟩ : ∃ y : Int32, y = y3 + 6 := ⟨_, rfl⟩
          have tx640 : x640.toInt = y3.toInt + 6 := by rw [ex640, ti_addv b8 kc_6 (by decide), kt_6]
          have b641 : IV x640 6 3072 := by rw [ex640]; exact iv_add b8 kc_6 (by decide)
          refine m_iinc (v := x640) (L1 := [some (.ref b), some (.ref (G.1 0 0)), some (.ref (G.1 22 0)), some (.int x640)]) C dL_law_1028 rfl (by rw [ex640]; rfl) (by decide) rfl rfl ?_
          refine m_goto (tgt := 18) C dL_law_1031 (by decide) ?_
          refine m_widen (c2 := 250 + 8 * x640.toInt.toNat) (s2 := 5300 + 24 * x640.toInt.toNat) (by omega) (by omega) ?_
          exact ih18 τ629 x640 S I i630 r636 r637 r638 r639 (iv_wk b641 (by decide)) (by have q := hm18; omega)
        by_cases s642 : x11.toInt = 18
        · refine m_tableIn (tgt := 702) (off := 669) C dL_law_33 (by omega) (by omega) (by rw [s642]; rfl) (by decide) ?_
          have b643 : IV x11 18 18 := ⟨by omega, by omega⟩
          refine m_aload_n C dL_law_702 rfl rfl ?_
          refine m_aload_n C dL_law_703 rfl rfl ?_
          refine m_iload_n C dL_law_704 rfl rfl ?_
          refine m_iconst (v := 1) C dL_law_705 (by decide) ?_
          refine m_iadd C dL_law_706 ?_
          refine m_topi (fun x644 ex644 => ?_)
          have tx644 : x644.toInt = y3.toInt + 1 := by rw [ex644, ti_addv b8 kc_1 (by decide), kt_1]
          have b645 : IV x644 1 3067 := by rw [ex644]; exact iv_add b8 kc_1 (by decide)
          refine m_sld C hX hbl hbA ⟨by omega, by omega⟩ dL_law_707 ?_
          refine m_topi (fun x646 ex646 => ?_)
          refine m_aload_n C dL_law_708 rfl rfl ?_
          refine m_iload_n C dL_law_709 rfl rfl ?_
          refine m_iconst (v := 2) C dL_law_710 (by decide) ?_
          refine m_iadd C dL_law_711 ?_
          refine m_topi (fun x647 ex647 => ?_)
          have tx647 : x647.toInt = y3.toInt + 2 := by rw [ex647, ti_addv b8 kc_2 (by decide), kt_2]
          have b648 : IV x647 2 3068 := by rw [ex647]; exact iv_add b8 kc_2 (by decide)
          refine m_sld C hX hbl hbA ⟨by omega, by omega⟩ dL_law_712 ?_
          refine m_topi (fun x649 ex649 => ?_)
          refine m_aload_n C dL_law_713 rfl rfl ?_
          refine m_iload_n C dL_law_714 rfl rfl ?_
          refine m_iconst (v := 3) C dL_law_715 (by decide) ?_
          refine m_iadd C dL_law_716 ?_
          refine m_topi (fun x650 ex650 => ?_)
          have tx650 : x650.toInt = y3.toInt + 3 := by rw [ex650, ti_addv b8 kc_3 (by decide), kt_3]
          have b651 : IV x650 3 3069 := by rw [ex650]; exact iv_add b8 kc_3 (by decide)
          refine m_sld C hX hbl hbA ⟨by omega, by omega⟩ dL_law_717 ?_
          refine m_topi (fun x652 ex652 => ?_)
          refine m_aload_n C dL_law_718 rfl rfl ?_
          refine m_iload_n C dL_law_719 rfl rfl ?_
          refine m_iconst (v := 4) C dL_law_720 (by decide) ?_
          refine m_iadd C dL_law_721 ?_
          refine m_topi (fun x653 ex653 => ?_)
          have tx653 : x653.toInt = y3.toInt + 4 := by rw [ex653, ti_addv b8 kc_4 (by decide), kt_4]
          have b654 : IV x653 4 3070 := by rw [ex653]; exact iv_add b8 kc_4 (by decide)
          refine m_sld C hX hbl hbA ⟨by omega, by omega⟩ dL_law_722 ?_
          refine m_topi (fun x655 ex655 => ?_)
          refine m_callV (n := 4) (ci := 10) (st := []) C (c_X11_marksS l G τ (x646) (x649) (x652) (x655) iτ ) (by decide) (by decide) rfl rfl rfl q3_187 q3_184 q3_185 q3_186 q1_1 (by decide +kernel) rfl (by decide) ⟨by show (250 + 8 * y3.toInt.toNat) + 0 ≤ 600000; omega, by show (5300 + 24 * y3.toInt.toNat) + 0 ≤ 7302250; omega⟩ rfl (Nat.le_of_ble_eq_true rfl) dL_law_723 ?_
          rintro _ τ656 ⟨x659, rfl, i657, f658, b660, h662⟩
          have r663 : MA τ656 S I := mτ.fr iτ f658 (by decide) (by decide)
          have r664 : Rel τ656 := rτ.call f658 (by decide) (by decide)
          have r665 : RT τ656 := tτ.call f658 (by decide) (by decide)
          have r666 : CA τ656 S I := cτ.sf f658 h662 (by decide) (by decide)
          show MW p l e _ s m _ below meth c _ 4 G (250 + 8 * y3.toInt.toNat) (5300 + 24 * y3.toInt.toNat) 726 [some (.ref b), some (.ref (G.1 0 0)), some (.ref (G.1 22 0)), some (.int y3)] [.int x659] τ656
          refine m_pop C dL_law_726 rfl ?_
          refine m_aload_n C dL_law_727 rfl rfl ?_
          refine m_aload_n C dL_law_728 rfl rfl ?_
          refine m_iload_n C dL_law_729 rfl rfl ?_
          refine m_iconst (v := 1) C dL_law_730 (by decide) ?_
          refine m_iadd C dL_law_731 ?_
          refine m_topi (fun x667 ex667 => ?_)
          have tx667 : x667.toInt = y3.toInt + 1 := by rw [ex667, ti_addv b8 kc_1 (by decide), kt_1]
          have b668 : IV x667 1 3067 := by rw [ex667]; exact iv_add b8 kc_1 (by decide)
          refine m_sld C hX hbl hbA ⟨by omega, by omega⟩ dL_law_732 ?_
          refine m_eqs (w := x646) (by rw [ex646, show x667.toInt.toNat = x644.toInt.toNat by omega]) ?_
          refine m_aload_n C dL_law_733 rfl rfl ?_
          refine m_iload_n C dL_law_734 rfl rfl ?_
          refine m_iconst (v := 2) C dL_law_735 (by decide) ?_
          refine m_iadd C dL_law_736 ?_
          refine m_topi (fun x669 ex669 => ?_)
          have tx669 : x669.toInt = y3.toInt + 2 := by rw [ex669, ti_addv b8 kc_2 (by decide), kt_2]
          have b670 : IV x669 2 3068 := by rw [ex669]; exact iv_add b8 kc_2 (by decide)
          refine m_sld C hX hbl hbA ⟨by omega, by omega⟩ dL_law_737 ?_
          refine m_eqs (w := x649) (by rw [ex649, show x669.toInt.toNat = x647.toInt.toNat by omega]) ?_
          refine m_aload_n C dL_law_738 rfl rfl ?_
          refine m_iload_n C dL_law_739 rfl rfl ?_
          refine m_iconst (v := 3) C dL_law_740 (by decide) ?_
          refine m_iadd C dL_law_741 ?_
          refine m_topi (fun x671 ex671 => ?_)
          have tx671 : x671.toInt = y3.toInt + 3 := by rw [ex671, ti_addv b8 kc_3 (by decide), kt_3]
          have b672 : IV x671 3 3069 := by rw [ex671]; exact iv_add b8 kc_3 (by decide)
          refine m_sld C hX hbl hbA ⟨by omega, by omega⟩ dL_law_742 ?_
          refine m_eqs (w := x652) (by rw [ex652, show x671.toInt.toNat = x650.toInt.toNat by omega]) ?_
          refine m_aload_n C dL_law_743 rfl rfl ?_
          refine m_iload_n C dL_law_744 rfl rfl ?_
          refine m_iconst (v := 4) C dL_law_745 (by decide) ?_
          refine m_iadd C dL_law_746 ?_
          refine m_topi (fun x673 ex673 => ?_)
          have tx673 : x673.toInt = y3.toInt + 4 := by rw [ex673, ti_addv b8 kc_4 (by decide), kt_4]
          have b674 : IV x673 4 3070 := by rw [ex673]; exact iv_add b8 kc_4 (by decide)
          refine m_sld C hX hbl hbA ⟨by omega, by omega⟩ dL_law_747 ?_
          refine m_eqs (w := x655) (by rw [ex655, show x673.toInt.toNat = x653.toInt.toNat by omega]) ?_
          refine m_callV (n := 4) (ci := 11) (st := []) C (c_X12_marksS l G τ656 (x646) (x649) (x652) (x655) i657 ) (by decide) (by decide) rfl rfl rfl q5_154 q5_151 q5_152 q5_153 q1_7 (by decide +kernel) rfl (by decide) ⟨by show (250 + 8 * y3.toInt.toNat) + 0 ≤ 600000; omega, by show (5300 + 24 * y3.toInt.toNat) + 0 ≤ 7302250; omega⟩ rfl (Nat.le_of_ble_eq_true rfl) dL_law_748 ?_
          rintro _ τ675 ⟨x678, rfl, i676, f677, b679, h681⟩
          have r682 : Rel τ675 := r664.call f677 (by decide) (by decide)
          have r683 : RT τ675 := r665.call f677 (by decide) (by decide)
          have r684 : CA τ675 S I := r666.fr f677 (by decide) (by decide)
          have r685 : MA τ675 S I := r663.sf i657 f677 h681 (by decide) (by decide)
          show MW p l e _ s m _ below meth c _ 4 G (250 + 8 * y3.toInt.toNat) (5300 + 24 * y3.toInt.toNat) 751 [some (.ref b), some (.ref (G.1 0 0)), some (.ref (G.1 22 0)), some (.int y3)] [.int x678] τ675
          refine m_pop C dL_law_751 rfl ?_
          refine m_goto (tgt := 1028) C dL_law_752 (by decide) ?_
          obtain ⟨x686, ex686⟩ : ∃ y : Int32, y = y3 + 6 := ⟨_, rfl⟩
          have tx686 : x686.toInt = y3.toInt + 6 := by rw [ex686, ti_addv b8 kc_6 (by decide), kt_6]
          have b687 : IV x686 6 3072 := by rw [ex686]; exact iv_add b8 kc_6 (by decide)
          refine m_iinc (v := x686) (L1 := [some (.ref b), some (.ref (G.1 0 0)), some (.ref (G.1 22 0)), some (.int x686)]) C dL_law_1028 rfl (by rw [ex686]; rfl) (by decide) rfl rfl ?_
          refine m_goto (tgt := 18) C dL_law_1031 (by decide) ?_
          refine m_widen (c2 := 250 + 8 * x686.toInt.toNat) (s2 := 5300 + 24 * x686.toInt.toNat) (by omega) (by omega) ?_
          exact ih18 τ675 x686 S I i676 r682 r683 r684 r685 (iv_wk b687 (by decide)) (by have q := hm18; omega)
        by_cases s688 : x11.toInt = 19
        · refine m_tableIn (tgt := 755) (off := 722) C dL_law_33 (by omega) (by omega) (by rw [s688]; rfl) (by decide) ?_
          have b689 : IV x11 19 19 := ⟨by omega, by omega⟩
          refine m_aload_n C dL_law_755 rfl rfl ?_
          refine m_aload_n C dL_law_756 rfl rfl ?_
          refine m_iload_n C dL_law_757 rfl rfl ?_
          refine m_iconst (v := 1) C dL_law_758 (by decide) ?_
          refine m_iadd C dL_law_759 ?_
          refine m_topi (fun x690 ex690 => ?_)
          have tx690 : x690.toInt = y3.toInt + 1 := by rw [ex690, ti_addv b8 kc_1 (by decide), kt_1]
          have b691 : IV x690 1 3067 := by rw [ex690]; exact iv_add b8 kc_1 (by decide)
          refine m_sld C hX hbl hbA ⟨by omega, by omega⟩ dL_law_760 ?_
          refine m_topi (fun x692 ex692 => ?_)
          refine m_callV (n := 1) (ci := 10) (st := []) C (c_X11_rescue l G τ (x692) iτ ) (by decide) (by decide) rfl rfl rfl q3_202 q3_199 q3_200 q3_201 q1_1 (by decide +kernel) rfl (by decide) ⟨by show (250 + 8 * y3.toInt.toNat) + 0 ≤ 600000; omega, by show (5300 + 24 * y3.toInt.toNat) + 0 ≤ 7302250; omega⟩ rfl (Nat.le_of_ble_eq_true rfl) dL_law_761 ?_
          rintro _ τ693 ⟨x696, rfl, i694, f695, b697⟩
          have r700 : MA τ693 S I := mτ.fr iτ f695 (by decide) (by decide)
          have r701 : Rel τ693 := rτ.call f695 (by decide) (by decide)
          have r702 : RT τ693 := tτ.call f695 (by decide) (by decide)
          have r703 : CA τ693 S I := cτ.fr f695 (by decide) (by decide)
          show MW p l e _ s m _ below meth c _ 4 G (250 + 8 * y3.toInt.toNat) (5300 + 24 * y3.toInt.toNat) 764 [some (.ref b), some (.ref (G.1 0 0)), some (.ref (G.1 22 0)), some (.int y3)] [.int x696] τ693
          refine m_pop C dL_law_764 rfl ?_
          refine m_aload_n C dL_law_765 rfl rfl ?_
          refine m_aload_n C dL_law_766 rfl rfl ?_
          refine m_iload_n C dL_law_767 rfl rfl ?_
          refine m_iconst (v := 1) C dL_law_768 (by decide) ?_
          refine m_iadd C dL_law_769 ?_
          refine m_topi (fun x704 ex704 => ?_)
          have tx704 : x704.toInt = y3.toInt + 1 := by rw [ex704, ti_addv b8 kc_1 (by decide), kt_1]
          have b705 : IV x704 1 3067 := by rw [ex704]; exact iv_add b8 kc_1 (by decide)
          refine m_sld C hX hbl hbA ⟨by omega, by omega⟩ dL_law_770 ?_
          refine m_eqs (w := x692) (by rw [ex692, show x704.toInt.toNat = x690.toInt.toNat by omega]) ?_
          refine m_callV (n := 1) (ci := 11) (st := []) C (c_X12_rescueS l G τ693 (x692) i694 ) (by decide) (by decide) rfl rfl rfl q5_160 q5_157 q5_158 q5_159 q1_7 (by decide +kernel) rfl (by decide) ⟨by show (250 + 8 * y3.toInt.toNat) + 0 ≤ 600000; omega, by show (5300 + 24 * y3.toInt.toNat) + 0 ≤ 7302250; omega⟩ rfl (Nat.le_of_ble_eq_true rfl) dL_law_771 ?_
          rintro _ τ706 ⟨x709, rfl, i707, f708, b710, h712⟩
          have r713 : Rel τ706 := r701.call f708 (by decide) (by decide)
          have r714 : RT τ706 := r702.call f708 (by decide) (by decide)
          have r715 : CA τ706 S I := r703.fr f708 (by decide) (by decide)
          have r716 : MA τ706 S I := r700.sf i694 f708 h712 (by decide) (by decide)
          show MW p l e _ s m _ below meth c _ 4 G (250 + 8 * y3.toInt.toNat) (5300 + 24 * y3.toInt.toNat) 774 [some (.ref b), some (.ref (G.1 0 0)), some (.ref (G.1 22 0)), some (.int y3)] [.int x709] τ706
          refine m_pop C dL_law_774 rfl ?_
          refine m_goto (tgt := 1028) C dL_law_775 (by decide) ?_
          obtain ⟨x717, ex717⟩ : ∃ y : Int32, y = y3 + 6 := ⟨_, rfl⟩
          have tx717 : x717.toInt = y3.toInt + 6 := by rw [ex717, ti_addv b8 kc_6 (by decide), kt_6]
          have b718 : IV x717 6 3072 := by rw [ex717]; exact iv_add b8 kc_6 (by decide)
          refine m_iinc (v := x717) (L1 := [some (.ref b), some (.ref (G.1 0 0)), some (.ref (G.1 22 0)), some (.int x717)]) C dL_law_1028 rfl (by rw [ex717]; rfl) (by decide) rfl rfl ?_
          refine m_goto (tgt := 18) C dL_law_1031 (by decide) ?_
          refine m_widen (c2 := 250 + 8 * x717.toInt.toNat) (s2 := 5300 + 24 * x717.toInt.toNat) (by omega) (by omega) ?_
          exact ih18 τ706 x717 S I i707 r713 r714 r715 r716 (iv_wk b718 (by decide)) (by have q := hm18; omega)
        by_cases s719 : x11.toInt = 20
        · refine m_tableIn (tgt := 778) (off := 745) C dL_law_33 (by omega) (by omega) (by rw [s719]; rfl) (by decide) ?_
          have b720 : IV x11 20 20 := ⟨by omega, by omega⟩
          refine m_aload_n C dL_law_778 rfl rfl ?_
          refine m_callV (n := 0) (ci := 10) (st := []) C (c_X11_fallS l G τ  iτ ) (by decide) (by decide) rfl rfl rfl q3_220 q3_217 q3_218 q3_219 q1_1 (by decide +kernel) rfl (by decide) ⟨by show (250 + 8 * y3.toInt.toNat) + 0 ≤ 600000; omega, by show (5300 + 24 * y3.toInt.toNat) + 0 ≤ 7302250; omega⟩ rfl (Nat.le_of_ble_eq_true rfl) dL_law_779 ?_
          rintro _ τ721 ⟨x724, rfl, i722, f723, b725, h727⟩
          have r728 : MA τ721 S I := mτ.fr iτ f723 (by decide) (by decide)
          have r729 : Rel τ721 := rτ.call f723 (by decide) (by decide)
          have r730 : RT τ721 := tτ.call f723 (by decide) (by decide)
          have r731 : CA τ721 S I := cτ.sf f723 h727 (by decide) (by decide)
          show MW p l e _ s m _ below meth c _ 4 G (250 + 8 * y3.toInt.toNat) (5300 + 24 * y3.toInt.toNat) 782 [some (.ref b), some (.ref (G.1 0 0)), some (.ref (G.1 22 0)), some (.int y3)] [.int x724] τ721
          refine m_pop C dL_law_782 rfl ?_
          refine m_aload_n C dL_law_783 rfl rfl ?_
          refine m_callV (n := 0) (ci := 11) (st := []) C (c_X12_fallS l G τ721  i722 ) (by decide) (by decide) rfl rfl rfl q5_168 q5_165 q5_166 q5_167 q1_7 (by decide +kernel) rfl (by decide) ⟨by show (250 + 8 * y3.toInt.toNat) + 0 ≤ 600000; omega, by show (5300 + 24 * y3.toInt.toNat) + 0 ≤ 7302250; omega⟩ rfl (Nat.le_of_ble_eq_true rfl) dL_law_784 ?_
          rintro _ τ732 ⟨x735, rfl, i733, f734, b736, h738⟩
          have r739 : Rel τ732 := r729.call f734 (by decide) (by decide)
          have r740 : RT τ732 := r730.call f734 (by decide) (by decide)
          have r741 : CA τ732 S I := r731.fr f734 (by decide) (by decide)
          have r742 : MA τ732 S I := r728.sf i722 f734 h738 (by decide) (by decide)
          show MW p l e _ s m _ below meth c _ 4 G (250 + 8 * y3.toInt.toNat) (5300 + 24 * y3.toInt.toNat) 787 [some (.ref b), some (.ref (G.1 0 0)), some (.ref (G.1 22 0)), some (.int y3)] [.int x735] τ732
          refine m_pop C dL_law_787 rfl ?_
          refine m_goto (tgt := 1028) C dL_law_788 (by decide) ?_
          obtain ⟨x743, ex743⟩ : ∃ y : Int32, y = y3 + 6 := ⟨_, rfl⟩
          have tx743 : x743.toInt = y3.toInt + 6 := by rw [ex743, ti_addv b8 kc_6 (by decide), kt_6]
          have b744 : IV x743 6 3072 := by rw [ex743]; exact iv_add b8 kc_6 (by decide)
          refine m_iinc (v := x743) (L1 := [some (.ref b), some (.ref (G.1 0 0)), some (.ref (G.1 22 0)), some (.int x743)]) C dL_law_1028 rfl (by rw [ex743]; rfl) (by decide) rfl rfl ?_
          refine m_goto (tgt := 18) C dL_law_1031 (by decide) ?_
          refine m_widen (c2 := 250 + 8 * x743.toInt.toNat) (s2 := 5300 + 24 * x743.toInt.toNat) (by omega) (by omega) ?_
          exact ih18 τ732 x743 S I i733 r739 r740 r741 r742 (iv_wk b744 (by decide)) (by have q := hm18; omega)
        by_cases s745 : x11.toInt = 21
        · refine m_tableIn (tgt := 791) (off := 758) C dL_law_33 (by omega) (by omega) (by rw [s745]; rfl) (by decide) ?_
          have b746 : IV x11 21 21 := ⟨by omega, by omega⟩
          refine m_aload_n C dL_law_791 rfl rfl ?_
          refine m_aload_n C dL_law_792 rfl rfl ?_
          refine m_iload_n C dL_law_793 rfl rfl ?_
          refine m_iconst (v := 1) C dL_law_794 (by decide) ?_
          refine m_iadd C dL_law_795 ?_
          refine m_topi (fun x747 ex747 => ?_)
          have tx747 : x747.toInt = y3.toInt + 1 := by rw [ex747, ti_addv b8 kc_1 (by decide), kt_1]
          have b748 : IV x747 1 3067 := by rw [ex747]; exact iv_add b8 kc_1 (by decide)
          refine m_sld C hX hbl hbA ⟨by omega, by omega⟩ dL_law_796 ?_
          refine m_topi (fun x749 ex749 => ?_)
          refine m_aload_n C dL_law_797 rfl rfl ?_
          refine m_iload_n C dL_law_798 rfl rfl ?_
          refine m_iconst (v := 2) C dL_law_799 (by decide) ?_
          refine m_iadd C dL_law_800 ?_
          refine m_topi (fun x750 ex750 => ?_)
          have tx750 : x750.toInt = y3.toInt + 2 := by rw [ex750, ti_addv b8 kc_2 (by decide), kt_2]
          have b751 : IV x750 2 3068 := by rw [ex750]; exact iv_add b8 kc_2 (by decide)
          refine m_sld C hX hbl hbA ⟨by omega, by omega⟩ dL_law_801 ?_
          refine m_topi (fun x752 ex752 => ?_)
          refine m_aload_n C dL_law_802 rfl rfl ?_
          refine m_iload_n C dL_law_803 rfl rfl ?_
          refine m_iconst (v := 3) C dL_law_804 (by decide) ?_
          refine m_iadd C dL_law_805 ?_
          refine m_topi (fun x753 ex753 => ?_)
          have tx753 : x753.toInt = y3.toInt + 3 := by rw [ex753, ti_addv b8 kc_3 (by decide), kt_3]
          have b754 : IV x753 3 3069 := by rw [ex753]; exact iv_add b8 kc_3 (by decide)
          refine m_sld C hX hbl hbA ⟨by omega, by omega⟩ dL_law_806 ?_
          refine m_topi (fun x755 ex755 => ?_)
          refine m_callV (n := 3) (ci := 10) (st := []) C (c_X11_bells l G τ (x749) (x752) (x755) iτ ) (by decide) (by decide) rfl rfl rfl q3_224 q3_221 q3_222 q3_223 q1_1 (by decide +kernel) rfl (by decide) ⟨by show (250 + 8 * y3.toInt.toNat) + 0 ≤ 600000; omega, by show (5300 + 24 * y3.toInt.toNat) + 0 ≤ 7302250; omega⟩ rfl (Nat.le_of_ble_eq_true rfl) dL_law_807 ?_
          rintro _ τ756 ⟨x759, rfl, i757, f758, b760⟩
          have r763 : MA τ756 S I := mτ.fr iτ f758 (by decide) (by decide)
          have r764 : Rel τ756 := rτ.call f758 (by decide) (by decide)
          have r765 : RT τ756 := tτ.call f758 (by decide) (by decide)
          have r766 : CA τ756 S I := cτ.fr f758 (by decide) (by decide)
          show MW p l e _ s m _ below meth c _ 4 G (250 + 8 * y3.toInt.toNat) (5300 + 24 * y3.toInt.toNat) 810 [some (.ref b), some (.ref (G.1 0 0)), some (.ref (G.1 22 0)), some (.int y3)] [.int x759] τ756
          refine m_pop C dL_law_810 rfl ?_
          refine m_aload_n C dL_law_811 rfl rfl ?_
          refine m_aload_n C dL_law_812 rfl rfl ?_
          refine m_iload_n C dL_law_813 rfl rfl ?_
          refine m_iconst (v := 1) C dL_law_814 (by decide) ?_
          refine m_iadd C dL_law_815 ?_
          refine m_topi (fun x767 ex767 => ?_)
          have tx767 : x767.toInt = y3.toInt + 1 := by rw [ex767, ti_addv b8 kc_1 (by decide), kt_1]
          have b768 : IV x767 1 3067 := by rw [ex767]; exact iv_add b8 kc_1 (by decide)
          refine m_sld C hX hbl hbA ⟨by omega, by omega⟩ dL_law_816 ?_
          refine m_eqs (w := x749) (by rw [ex749, show x767.toInt.toNat = x747.toInt.toNat by omega]) ?_
          refine m_aload_n C dL_law_817 rfl rfl ?_
          refine m_iload_n C dL_law_818 rfl rfl ?_
          refine m_iconst (v := 2) C dL_law_819 (by decide) ?_
          refine m_iadd C dL_law_820 ?_
          refine m_topi (fun x769 ex769 => ?_)
          have tx769 : x769.toInt = y3.toInt + 2 := by rw [ex769, ti_addv b8 kc_2 (by decide), kt_2]
          have b770 : IV x769 2 3068 := by rw [ex769]; exact iv_add b8 kc_2 (by decide)
          refine m_sld C hX hbl hbA ⟨by omega, by omega⟩ dL_law_821 ?_
          refine m_eqs (w := x752) (by rw [ex752, show x769.toInt.toNat = x750.toInt.toNat by omega]) ?_
          refine m_aload_n C dL_law_822 rfl rfl ?_
          refine m_iload_n C dL_law_823 rfl rfl ?_
          refine m_iconst (v := 3) C dL_law_824 (by decide) ?_
          refine m_iadd C dL_law_825 ?_
          refine m_topi (fun x771 ex771 => ?_)
          have tx771 : x771.toInt = y3.toInt + 3 := by rw [ex771, ti_addv b8 kc_3 (by decide), kt_3]
          have b772 : IV x771 3 3069 := by rw [ex771]; exact iv_add b8 kc_3 (by decide)
          refine m_sld C hX hbl hbA ⟨by omega, by omega⟩ dL_law_826 ?_
          refine m_eqs (w := x755) (by rw [ex755, show x771.toInt.toNat = x753.toInt.toNat by omega]) ?_
          refine m_callV (n := 3) (ci := 11) (st := []) C (c_X12_bells l G τ756 (x749) (x752) (x755) i757 ) (by decide) (by decide) rfl rfl rfl q5_172 q5_169 q5_170 q5_171 q1_7 (by decide +kernel) rfl (by decide) ⟨by show (250 + 8 * y3.toInt.toNat) + 0 ≤ 600000; omega, by show (5300 + 24 * y3.toInt.toNat) + 0 ≤ 7302250; omega⟩ rfl (Nat.le_of_ble_eq_true rfl) dL_law_827 ?_
          rintro _ τ773 ⟨x776, rfl, i774, f775, b777⟩
          have r780 : Rel τ773 := r764.call f775 (by decide) (by decide)
          have r781 : RT τ773 := r765.call f775 (by decide) (by decide)
          have r782 : CA τ773 S I := r766.fr f775 (by decide) (by decide)
          have r783 : MA τ773 S I := r763.fr i757 f775 (by decide) (by decide)
          show MW p l e _ s m _ below meth c _ 4 G (250 + 8 * y3.toInt.toNat) (5300 + 24 * y3.toInt.toNat) 830 [some (.ref b), some (.ref (G.1 0 0)), some (.ref (G.1 22 0)), some (.int y3)] [.int x776] τ773
          refine m_pop C dL_law_830 rfl ?_
          refine m_goto (tgt := 1028) C dL_law_831 (by decide) ?_
          obtain ⟨x784, ex784⟩ : ∃ y : Int32, y = y3 + 6 := ⟨_, rfl⟩
          have tx784 : x784.toInt = y3.toInt + 6 := by rw [ex784, ti_addv b8 kc_6 (by decide), kt_6]
          have b785 : IV x784 6 3072 := by rw [ex784]; exact iv_add b8 kc_6 (by decide)
          refine m_iinc (v := x784) (L1 := [some (.ref b), some (.ref (G.1 0 0)), some (.ref (G.1 22 0)), some (.int x784)]) C dL_law_1028 rfl (by rw [ex784]; rfl) (by decide) rfl rfl ?_
          refine m_goto (tgt := 18) C dL_law_1031 (by decide) ?_
          refine m_widen (c2 := 250 + 8 * x784.toInt.toNat) (s2 := 5300 + 24 * x784.toInt.toNat) (by omega) (by omega) ?_
          exact ih18 τ773 x784 S I i774 r780 r781 r782 r783 (iv_wk b785 (by decide)) (by have q := hm18; omega)
        by_cases s786 : x11.toInt = 22
        · refine m_tableIn (tgt := 834) (off := 801) C dL_law_33 (by omega) (by omega) (by rw [s786]; rfl) (by decide) ?_
          have b787 : IV x11 22 22 := ⟨by omega, by omega⟩
          refine m_aload_n C dL_law_834 rfl rfl ?_
          refine m_aload_n C dL_law_835 rfl rfl ?_
          refine m_iload_n C dL_law_836 rfl rfl ?_
          refine m_iconst (v := 1) C dL_law_837 (by decide) ?_
          refine m_iadd C dL_law_838 ?_
          refine m_topi (fun x788 ex788 => ?_)
          have tx788 : x788.toInt = y3.toInt + 1 := by rw [ex788, ti_addv b8 kc_1 (by decide), kt_1]
          have b789 : IV x788 1 3067 := by rw [ex788]; exact iv_add b8 kc_1 (by decide)
          refine m_sld C hX hbl hbA ⟨by omega, by omega⟩ dL_law_839 ?_
          refine m_topi (fun x790 ex790 => ?_)
          refine m_callV (n := 1) (ci := 10) (st := []) C (c_X11_imageS l G τ S I (x790) iτ cτ) (by decide) (by decide) rfl rfl rfl q4_0 q3_237 q3_238 q3_239 q1_1 (by decide +kernel) rfl (by decide) ⟨by show (250 + 8 * y3.toInt.toNat) + 0 ≤ 600000; omega, by show (5300 + 24 * y3.toInt.toNat) + 0 ≤ 7302250; omega⟩ rfl (Nat.le_of_ble_eq_true rfl) dL_law_840 ?_
          rintro _ τ791 ⟨x794, rfl, i792, f793, b795, h797⟩
          have r798 : MA τ791 S I := mτ.fr iτ f793 (by decide) (by decide)
          have z799 := Hid.mk h797
          clear h797
          have r800 : Rel τ791 := rτ.call f793 (by decide) (by decide)
          have r801 : RT τ791 := tτ.call f793 (by decide) (by decide)
          show MW p l e _ s m _ below meth c _ 4 G (250 + 8 * y3.toInt.toNat) (5300 + 24 * y3.toInt.toNat) 843 [some (.ref b), some (.ref (G.1 0 0)), some (.ref (G.1 22 0)), some (.int y3)] [.int x794] τ791
          refine m_aload_n C dL_law_843 rfl rfl ?_
          refine m_aload_n C dL_law_844 rfl rfl ?_
          refine m_iload_n C dL_law_845 rfl rfl ?_
          refine m_iconst (v := 1) C dL_law_846 (by decide) ?_
          refine m_iadd C dL_law_847 ?_
          refine m_topi (fun x802 ex802 => ?_)
          have tx802 : x802.toInt = y3.toInt + 1 := by rw [ex802, ti_addv b8 kc_1 (by decide), kt_1]
          have b803 : IV x802 1 3067 := by rw [ex802]; exact iv_add b8 kc_1 (by decide)
          refine m_sld C hX hbl hbA ⟨by omega, by omega⟩ dL_law_848 ?_
          refine m_eqs (w := x790) (by rw [ex790, show x802.toInt.toNat = x788.toInt.toNat by omega]) ?_
          refine m_callV (n := 1) (ci := 11) (st := [.int x794]) C (c_X12_imageS l G τ791 S I (x790) i792 r798) (by decide) (by decide) rfl rfl rfl q5_178 q5_175 q5_176 q5_177 q1_7 (by decide +kernel) rfl (by decide) ⟨by show (250 + 8 * y3.toInt.toNat) + 0 ≤ 600000; omega, by show (5300 + 24 * y3.toInt.toNat) + 0 ≤ 7302250; omega⟩ rfl (Nat.le_of_ble_eq_true rfl) dL_law_849 ?_
          rintro _ τ804 ⟨x807, rfl, i805, f806, b808, h810⟩
          have r812 : Rel τ804 := r800.call f806 (by decide) (by decide)
          have r813 : RT τ804 := r801.call f806 (by decide) (by decide)
          obtain ⟨S814, h815, h816, q817⟩ := RS.imageB f806 z799 h810
          clear h810 z799
          show MW p l e _ s m _ below meth c _ 4 G (250 + 8 * y3.toInt.toNat) (5300 + 24 * y3.toInt.toNat) 852 [some (.ref b), some (.ref (G.1 0 0)), some (.ref (G.1 22 0)), some (.int y3)] [.int x807, .int x794] τ804
          refine m_icmp_eq (tgt := 1028) C dL_law_852 (by decide) (fun c818 => ?_) (fun c818 => ?_)
          · have f819 : x794.toInt = x807.toInt := by
              have q : _ := c818
              simp only [ti_nle, ti_nlt, ti_le, ti_lt, ti_eq, ti_ne, Classical.not_not] at q
              omega
            obtain ⟨x820, ex820⟩ : ∃ y : Int32, y = y3 + 6 := ⟨_, rfl⟩
            have tx820 : x820.toInt = y3.toInt + 6 := by rw [ex820, ti_addv b8 kc_6 (by decide), kt_6]
            have b821 : IV x820 6 3072 := by rw [ex820]; exact iv_add b8 kc_6 (by decide)
            refine m_iinc (v := x820) (L1 := [some (.ref b), some (.ref (G.1 0 0)), some (.ref (G.1 22 0)), some (.int x820)]) C dL_law_1028 rfl (by rw [ex820]; rfl) (by decide) rfl rfl ?_
            refine m_goto (tgt := 18) C dL_law_1031 (by decide) ?_
            refine m_widen (c2 := 250 + 8 * x820.toInt.toNat) (s2 := 5300 + 24 * x820.toInt.toNat) (by omega) (by omega) ?_
            exact ih18 τ804 x820 S S814 i805 r812 r813 h815 h816 (iv_wk b821 (by decide)) (by have q := hm18; omega)
          · have f822 : x794.toInt ≠ x807.toInt := by
              have q : _ := c818
              simp only [ti_nle, ti_nlt, ti_le, ti_lt, ti_eq, ti_ne, Classical.not_not] at q
              omega
            exfalso
            omega
        by_cases s823 : x11.toInt = 23
        · refine m_tableIn (tgt := 857) (off := 824) C dL_law_33 (by omega) (by omega) (by rw [s823]; rfl) (by decide) ?_
          have b824 : IV x11 23 23 := ⟨by omega, by omega⟩
          refine m_aload_n C dL_law_857 rfl rfl ?_
          refine m_aload_n C dL_law_858 rfl rfl ?_
          refine m_iload_n C dL_law_859 rfl rfl ?_
          refine m_iconst (v := 1) C dL_law_860 (by decide) ?_
          refine m_iadd C dL_law_861 ?_
          refine m_topi (fun x825 ex825 => ?_)
          have tx825 : x825.toInt = y3.toInt + 1 := by rw [ex825, ti_addv b8 kc_1 (by decide), kt_1]
          have b826 : IV x825 1 3067 := by rw [ex825]; exact iv_add b8 kc_1 (by decide)
          refine m_sld C hX hbl hbA ⟨by omega, by omega⟩ dL_law_862 ?_
          refine m_topi (fun x827 ex827 => ?_)
          refine m_callV (n := 1) (ci := 10) (st := []) C (c_X11_restoreS l G τ S I (x827) iτ cτ) (by decide) (by decide) rfl rfl rfl q4_4 q4_1 q4_2 q4_3 q1_1 (by decide +kernel) rfl (by decide) ⟨by show (250 + 8 * y3.toInt.toNat) + 0 ≤ 600000; omega, by show (5300 + 24 * y3.toInt.toNat) + 0 ≤ 7302250; omega⟩ rfl (Nat.le_of_ble_eq_true rfl) dL_law_863 ?_
          rintro _ τ828 ⟨x831, rfl, i829, f830, b832, h834⟩
          have r835 : MA τ828 S I := mτ.fr iτ f830 (by decide) (by decide)
          have z836 := Hid.mk h834
          clear h834
          have r837 : Rel τ828 := rτ.call f830 (by decide) (by decide)
          have r838 : RT τ828 := tτ.call f830 (by decide) (by decide)
          show MW p l e _ s m _ below meth c _ 4 G (250 + 8 * y3.toInt.toNat) (5300 + 24 * y3.toInt.toNat) 866 [some (.ref b), some (.ref (G.1 0 0)), some (.ref (G.1 22 0)), some (.int y3)] [.int x831] τ828
          refine m_pop C dL_law_866 rfl ?_
          refine m_aload_n C dL_law_867 rfl rfl ?_
          refine m_aload_n C dL_law_868 rfl rfl ?_
          refine m_iload_n C dL_law_869 rfl rfl ?_
          refine m_iconst (v := 1) C dL_law_870 (by decide) ?_
          refine m_iadd C dL_law_871 ?_
          refine m_topi (fun x839 ex839 => ?_)
          have tx839 : x839.toInt = y3.toInt + 1 := by rw [ex839, ti_addv b8 kc_1 (by decide), kt_1]
          have b840 : IV x839 1 3067 := by rw [ex839]; exact iv_add b8 kc_1 (by decide)
          refine m_sld C hX hbl hbA ⟨by omega, by omega⟩ dL_law_872 ?_
          refine m_eqs (w := x827) (by rw [ex827, show x839.toInt.toNat = x825.toInt.toNat by omega]) ?_
          refine m_callV (n := 1) (ci := 11) (st := []) C (c_X12_restoreS l G τ828 S I (x827) i829 r835) (by decide) (by decide) rfl rfl rfl q5_182 q5_179 q5_180 q5_181 q1_7 (by decide +kernel) rfl (by decide) ⟨by show (250 + 8 * y3.toInt.toNat) + 0 ≤ 600000; omega, by show (5300 + 24 * y3.toInt.toNat) + 0 ≤ 7302250; omega⟩ rfl (Nat.le_of_ble_eq_true rfl) dL_law_873 ?_
          rintro _ τ841 ⟨x844, rfl, i842, f843, b845, h847⟩
          have r849 : Rel τ841 := r837.call f843 (by decide) (by decide)
          have r850 : RT τ841 := r838.call f843 (by decide) (by decide)
          obtain ⟨S851, h852, h853, q854⟩ := RS.restoreB f843 z836 h847
          clear h847 z836
          show MW p l e _ s m _ below meth c _ 4 G (250 + 8 * y3.toInt.toNat) (5300 + 24 * y3.toInt.toNat) 876 [some (.ref b), some (.ref (G.1 0 0)), some (.ref (G.1 22 0)), some (.int y3)] [.int x844] τ841
          refine m_pop C dL_law_876 rfl ?_
          refine m_goto (tgt := 1028) C dL_law_877 (by decide) ?_
          obtain ⟨x855, ex855⟩ : ∃ y : Int32, y = y3 + 6 := ⟨_, rfl⟩
          have tx855 : x855.toInt = y3.toInt + 6 := by rw [ex855, ti_addv b8 kc_6 (by decide), kt_6]
          have b856 : IV x855 6 3072 := by rw [ex855]; exact iv_add b8 kc_6 (by decide)
          refine m_iinc (v := x855) (L1 := [some (.ref b), some (.ref (G.1 0 0)), some (.ref (G.1 22 0)), some (.int x855)]) C dL_law_1028 rfl (by rw [ex855]; rfl) (by decide) rfl rfl ?_
          refine m_goto (tgt := 18) C dL_law_1031 (by decide) ?_
          refine m_widen (c2 := 250 + 8 * x855.toInt.toNat) (s2 := 5300 + 24 * x855.toInt.toNat) (by omega) (by omega) ?_
          exact ih18 τ841 x855 S851 I i842 r849 r850 h852 h853 (iv_wk b856 (by decide)) (by have q := hm18; omega)
        by_cases s857 : x11.toInt = 24
        · refine m_tableIn (tgt := 880) (off := 847) C dL_law_33 (by omega) (by omega) (by rw [s857]; rfl) (by decide) ?_
          have b858 : IV x11 24 24 := ⟨by omega, by omega⟩
          refine m_aload_n C dL_law_880 rfl rfl ?_
          refine m_aload_n C dL_law_881 rfl rfl ?_
          refine m_iload_n C dL_law_882 rfl rfl ?_
          refine m_iconst (v := 1) C dL_law_883 (by decide) ?_
          refine m_iadd C dL_law_884 ?_
          refine m_topi (fun x859 ex859 => ?_)
          have tx859 : x859.toInt = y3.toInt + 1 := by rw [ex859, ti_addv b8 kc_1 (by decide), kt_1]
          have b860 : IV x859 1 3067 := by rw [ex859]; exact iv_add b8 kc_1 (by decide)
          refine m_sld C hX hbl hbA ⟨by omega, by omega⟩ dL_law_885 ?_
          refine m_topi (fun x861 ex861 => ?_)
          refine m_callV (n := 1) (ci := 10) (st := []) C (c_X11_kindS l G τ S I (x861) iτ cτ) (by decide) (by decide) rfl rfl rfl q4_8 q4_5 q4_6 q4_7 q1_1 (by decide +kernel) rfl (by decide) ⟨by show (250 + 8 * y3.toInt.toNat) + 0 ≤ 600000; omega, by show (5300 + 24 * y3.toInt.toNat) + 0 ≤ 7302250; omega⟩ rfl (Nat.le_of_ble_eq_true rfl) dL_law_886 ?_
          rintro _ τ862 ⟨x865, rfl, i863, f864, b866, h868⟩
          have r869 : MA τ862 S I := mτ.fr iτ f864 (by decide) (by decide)
          have z870 := Hid.mk h868
          clear h868
          have r871 : Rel τ862 := rτ.call f864 (by decide) (by decide)
          have r872 : RT τ862 := tτ.call f864 (by decide) (by decide)
          have r873 : CA τ862 S I := cτ.fr f864 (by decide) (by decide)
          show MW p l e _ s m _ below meth c _ 4 G (250 + 8 * y3.toInt.toNat) (5300 + 24 * y3.toInt.toNat) 889 [some (.ref b), some (.ref (G.1 0 0)), some (.ref (G.1 22 0)), some (.int y3)] [.int x865] τ862
          refine m_pop C dL_law_889 rfl ?_
          refine m_aload_n C dL_law_890 rfl rfl ?_
          refine m_aload_n C dL_law_891 rfl rfl ?_
          refine m_iload_n C dL_law_892 rfl rfl ?_
          refine m_iconst (v := 1) C dL_law_893 (by decide) ?_
          refine m_iadd C dL_law_894 ?_
          refine m_topi (fun x874 ex874 => ?_)
          have tx874 : x874.toInt = y3.toInt + 1 := by rw [ex874, ti_addv b8 kc_1 (by decide), kt_1]
          have b875 : IV x874 1 3067 := by rw [ex874]; exact iv_add b8 kc_1 (by decide)
          refine m_sld C hX hbl hbA ⟨by omega, by omega⟩ dL_law_895 ?_
          refine m_eqs (w := x861) (by rw [ex861, show x874.toInt.toNat = x859.toInt.toNat by omega]) ?_
          refine m_callV (n := 1) (ci := 11) (st := []) C (c_X12_kindS l G τ862 S I (x861) i863 r869) (by decide) (by decide) rfl rfl rfl q5_186 q5_183 q5_184 q5_185 q1_7 (by decide +kernel) rfl (by decide) ⟨by show (250 + 8 * y3.toInt.toNat) + 0 ≤ 600000; omega, by show (5300 + 24 * y3.toInt.toNat) + 0 ≤ 7302250; omega⟩ rfl (Nat.le_of_ble_eq_true rfl) dL_law_896 ?_
          rintro _ τ876 ⟨x879, rfl, i877, f878, b880, h882⟩
          have r884 : Rel τ876 := r871.call f878 (by decide) (by decide)
          have r885 : RT τ876 := r872.call f878 (by decide) (by decide)
          have g883 := RS.kindB z870 h882
          have r886 : CA τ876 S I := r873.fr f878 (by decide) (by decide)
          have r887 : MA τ876 S I := r869.fr i863 f878 (by decide) (by decide)
          clear h882 z870
          show MW p l e _ s m _ below meth c _ 4 G (250 + 8 * y3.toInt.toNat) (5300 + 24 * y3.toInt.toNat) 899 [some (.ref b), some (.ref (G.1 0 0)), some (.ref (G.1 22 0)), some (.int y3)] [.int x879] τ876
          refine m_pop C dL_law_899 rfl ?_
          refine m_goto (tgt := 1028) C dL_law_900 (by decide) ?_
          obtain ⟨x888, ex888⟩ : ∃ y : Int32, y = y3 + 6 := ⟨_, rfl⟩
          have tx888 : x888.toInt = y3.toInt + 6 := by rw [ex888, ti_addv b8 kc_6 (by decide), kt_6]
          have b889 : IV x888 6 3072 := by rw [ex888]; exact iv_add b8 kc_6 (by decide)
          refine m_iinc (v := x888) (L1 := [some (.ref b), some (.ref (G.1 0 0)), some (.ref (G.1 22 0)), some (.int x888)]) C dL_law_1028 rfl (by rw [ex888]; rfl) (by decide) rfl rfl ?_
          refine m_goto (tgt := 18) C dL_law_1031 (by decide) ?_
          refine m_widen (c2 := 250 + 8 * x888.toInt.toNat) (s2 := 5300 + 24 * x888.toInt.toNat) (by omega) (by omega) ?_
          exact ih18 τ876 x888 S I i877 r884 r885 r886 r887 (iv_wk b889 (by decide)) (by have q := hm18; omega)
        by_cases s890 : x11.toInt = 25
        · refine m_tableIn (tgt := 903) (off := 870) C dL_law_33 (by omega) (by omega) (by rw [s890]; rfl) (by decide) ?_
          have b891 : IV x11 25 25 := ⟨by omega, by omega⟩
          refine m_aload_n C dL_law_903 rfl rfl ?_
          refine m_aload_n C dL_law_904 rfl rfl ?_
          refine m_iload_n C dL_law_905 rfl rfl ?_
          refine m_iconst (v := 1) C dL_law_906 (by decide) ?_
          refine m_iadd C dL_law_907 ?_
          refine m_topi (fun x892 ex892 => ?_)
          have tx892 : x892.toInt = y3.toInt + 1 := by rw [ex892, ti_addv b8 kc_1 (by decide), kt_1]
          have b893 : IV x892 1 3067 := by rw [ex892]; exact iv_add b8 kc_1 (by decide)
          refine m_sld C hX hbl hbA ⟨by omega, by omega⟩ dL_law_908 ?_
          refine m_topi (fun x894 ex894 => ?_)
          refine m_aload_n C dL_law_909 rfl rfl ?_
          refine m_iload_n C dL_law_910 rfl rfl ?_
          refine m_iconst (v := 2) C dL_law_911 (by decide) ?_
          refine m_iadd C dL_law_912 ?_
          refine m_topi (fun x895 ex895 => ?_)
          have tx895 : x895.toInt = y3.toInt + 2 := by rw [ex895, ti_addv b8 kc_2 (by decide), kt_2]
          have b896 : IV x895 2 3068 := by rw [ex895]; exact iv_add b8 kc_2 (by decide)
          refine m_sld C hX hbl hbA ⟨by omega, by omega⟩ dL_law_913 ?_
          refine m_topi (fun x897 ex897 => ?_)
          refine m_callV (n := 2) (ci := 10) (st := []) C (c_X11_asS l G τ S I (x894) (x897) iτ cτ) (by decide) (by decide) rfl rfl rfl q4_30 q4_27 q4_28 q4_29 q1_1 (by decide +kernel) rfl (by decide) ⟨by show (250 + 8 * y3.toInt.toNat) + 0 ≤ 600000; omega, by show (5300 + 24 * y3.toInt.toNat) + 0 ≤ 7302250; omega⟩ rfl (Nat.le_of_ble_eq_true rfl) dL_law_914 ?_
          rintro _ τ898 ⟨x901, rfl, i899, f900, b902, h904⟩
          have r905 : MA τ898 S I := mτ.fr iτ f900 (by decide) (by decide)
          have z906 := Hid.mk h904
          clear h904
          have r907 : Rel τ898 := rτ.call f900 (by decide) (by decide)
          have r908 : RT τ898 := tτ.call f900 (by decide) (by decide)
          have r909 : CA τ898 S I := cτ.fr f900 (by decide) (by decide)
          show MW p l e _ s m _ below meth c _ 4 G (250 + 8 * y3.toInt.toNat) (5300 + 24 * y3.toInt.toNat) 917 [some (.ref b), some (.ref (G.1 0 0)), some (.ref (G.1 22 0)), some (.int y3)] [.int x901] τ898
          refine m_pop C dL_law_917 rfl ?_
          refine m_aload_n C dL_law_918 rfl rfl ?_
          refine m_aload_n C dL_law_919 rfl rfl ?_
          refine m_iload_n C dL_law_920 rfl rfl ?_
          refine m_iconst (v := 1) C dL_law_921 (by decide) ?_
          refine m_iadd C dL_law_922 ?_
          refine m_topi (fun x910 ex910 => ?_)
          have tx910 : x910.toInt = y3.toInt + 1 := by rw [ex910, ti_addv b8 kc_1 (by decide), kt_1]
          have b911 : IV x910 1 3067 := by rw [ex910]; exact iv_add b8 kc_1 (by decide)
          refine m_sld C hX hbl hbA ⟨by omega, by omega⟩ dL_law_923 ?_
          refine m_eqs (w := x894) (by rw [ex894, show x910.toInt.toNat = x892.toInt.toNat by omega]) ?_
          refine m_aload_n C dL_law_924 rfl rfl ?_
          refine m_iload_n C dL_law_925 rfl rfl ?_
          refine m_iconst (v := 2) C dL_law_926 (by decide) ?_
          refine m_iadd C dL_law_927 ?_
          refine m_topi (fun x912 ex912 => ?_)
          have tx912 : x912.toInt = y3.toInt + 2 := by rw [ex912, ti_addv b8 kc_2 (by decide), kt_2]
          have b913 : IV x912 2 3068 := by rw [ex912]; exact iv_add b8 kc_2 (by decide)
          refine m_sld C hX hbl hbA ⟨by omega, by omega⟩ dL_law_928 ?_
          refine m_eqs (w := x897) (by rw [ex897, show x912.toInt.toNat = x895.toInt.toNat by omega]) ?_
          refine m_callV (n := 2) (ci := 11) (st := []) C (c_X12_asS l G τ898 S I (x894) (x897) i899 r905) (by decide) (by decide) rfl rfl rfl q5_190 q5_187 q5_188 q5_189 q1_7 (by decide +kernel) rfl (by decide) ⟨by show (250 + 8 * y3.toInt.toNat) + 0 ≤ 600000; omega, by show (5300 + 24 * y3.toInt.toNat) + 0 ≤ 7302250; omega⟩ rfl (Nat.le_of_ble_eq_true rfl) dL_law_929 ?_
          rintro _ τ914 ⟨x917, rfl, i915, f916, b918, h920⟩
          have r922 : Rel τ914 := r907.call f916 (by decide) (by decide)
          have r923 : RT τ914 := r908.call f916 (by decide) (by decide)
          have g921 := RS.asB z906 h920
          have r924 : CA τ914 S I := r909.fr f916 (by decide) (by decide)
          have r925 : MA τ914 S I := r905.fr i899 f916 (by decide) (by decide)
          clear h920 z906
          show MW p l e _ s m _ below meth c _ 4 G (250 + 8 * y3.toInt.toNat) (5300 + 24 * y3.toInt.toNat) 932 [some (.ref b), some (.ref (G.1 0 0)), some (.ref (G.1 22 0)), some (.int y3)] [.int x917] τ914
          refine m_pop C dL_law_932 rfl ?_
          refine m_goto (tgt := 1028) C dL_law_933 (by decide) ?_
          obtain ⟨x926, ex926⟩ : ∃ y : Int32, y = y3 + 6 := ⟨_, rfl⟩
          have tx926 : x926.toInt = y3.toInt + 6 := by rw [ex926, ti_addv b8 kc_6 (by decide), kt_6]
          have b927 : IV x926 6 3072 := by rw [ex926]; exact iv_add b8 kc_6 (by decide)
          refine m_iinc (v := x926) (L1 := [some (.ref b), some (.ref (G.1 0 0)), some (.ref (G.1 22 0)), some (.int x926)]) C dL_law_1028 rfl (by rw [ex926]; rfl) (by decide) rfl rfl ?_
          refine m_goto (tgt := 18) C dL_law_1031 (by decide) ?_
          refine m_widen (c2 := 250 + 8 * x926.toInt.toNat) (s2 := 5300 + 24 * x926.toInt.toNat) (by omega) (by omega) ?_
          exact ih18 τ914 x926 S I i915 r922 r923 r924 r925 (iv_wk b927 (by decide)) (by have q := hm18; omega)
        by_cases s928 : x11.toInt = 26
        · refine m_tableIn (tgt := 936) (off := 903) C dL_law_33 (by omega) (by omega) (by rw [s928]; rfl) (by decide) ?_
          have b929 : IV x11 26 26 := ⟨by omega, by omega⟩
          refine m_aload_n C dL_law_936 rfl rfl ?_
          refine m_aload_n C dL_law_937 rfl rfl ?_
          refine m_iload_n C dL_law_938 rfl rfl ?_
          refine m_iconst (v := 1) C dL_law_939 (by decide) ?_
          refine m_iadd C dL_law_940 ?_
          refine m_topi (fun x930 ex930 => ?_)
          have tx930 : x930.toInt = y3.toInt + 1 := by rw [ex930, ti_addv b8 kc_1 (by decide), kt_1]
          have b931 : IV x930 1 3067 := by rw [ex930]; exact iv_add b8 kc_1 (by decide)
          refine m_sld C hX hbl hbA ⟨by omega, by omega⟩ dL_law_941 ?_
          refine m_topi (fun x932 ex932 => ?_)
          refine m_aload_n C dL_law_942 rfl rfl ?_
          refine m_iload_n C dL_law_943 rfl rfl ?_
          refine m_iconst (v := 2) C dL_law_944 (by decide) ?_
          refine m_iadd C dL_law_945 ?_
          refine m_topi (fun x933 ex933 => ?_)
          have tx933 : x933.toInt = y3.toInt + 2 := by rw [ex933, ti_addv b8 kc_2 (by decide), kt_2]
          have b934 : IV x933 2 3068 := by rw [ex933]; exact iv_add b8 kc_2 (by decide)
          refine m_sld C hX hbl hbA ⟨by omega, by omega⟩ dL_law_946 ?_
          refine m_topi (fun x935 ex935 => ?_)
          refine m_callV (n := 2) (ci := 10) (st := []) C (c_X11_ask l G τ (x932) (x935) iτ ) (by decide) (by decide) rfl rfl rfl q4_42 q4_39 q4_40 q4_41 q1_1 (by decide +kernel) rfl (by decide) ⟨by show (250 + 8 * y3.toInt.toNat) + 0 ≤ 600000; omega, by show (5300 + 24 * y3.toInt.toNat) + 0 ≤ 7302250; omega⟩ rfl (Nat.le_of_ble_eq_true rfl) dL_law_947 ?_
          rintro _ τ936 ⟨x939, rfl, i937, f938, b940⟩
          have r943 : MA τ936 S I := mτ.fr iτ f938 (by decide) (by decide)
          have r944 : Rel τ936 := rτ.call f938 (by decide) (by decide)
          have r945 : RT τ936 := tτ.call f938 (by decide) (by decide)
          have r946 : CA τ936 S I := cτ.fr f938 (by decide) (by decide)
          show MW p l e _ s m _ below meth c _ 4 G (250 + 8 * y3.toInt.toNat) (5300 + 24 * y3.toInt.toNat) 950 [some (.ref b), some (.ref (G.1 0 0)), some (.ref (G.1 22 0)), some (.int y3)] [.int x939] τ936
          refine m_pop C dL_law_950 rfl ?_
          refine m_aload_n C dL_law_951 rfl rfl ?_
          refine m_aload_n C dL_law_952 rfl rfl ?_
          refine m_iload_n C dL_law_953 rfl rfl ?_
          refine m_iconst (v := 1) C dL_law_954 (by decide) ?_
          refine m_iadd C dL_law_955 ?_
          refine m_topi (fun x947 ex947 => ?_)
          have tx947 : x947.toInt = y3.toInt + 1 := by rw [ex947, ti_addv b8 kc_1 (by decide), kt_1]
          have b948 : IV x947 1 3067 := by rw [ex947]; exact iv_add b8 kc_1 (by decide)
          refine m_sld C hX hbl hbA ⟨by omega, by omega⟩ dL_law_956 ?_
          refine m_eqs (w := x932) (by rw [ex932, show x947.toInt.toNat = x930.toInt.toNat by omega]) ?_
          refine m_aload_n C dL_law_957 rfl rfl ?_
          refine m_iload_n C dL_law_958 rfl rfl ?_
          refine m_iconst (v := 2) C dL_law_959 (by decide) ?_
          refine m_iadd C dL_law_960 ?_
          refine m_topi (fun x949 ex949 => ?_)
          have tx949 : x949.toInt = y3.toInt + 2 := by rw [ex949, ti_addv b8 kc_2 (by decide), kt_2]
          have b950 : IV x949 2 3068 := by rw [ex949]; exact iv_add b8 kc_2 (by decide)
          refine m_sld C hX hbl hbA ⟨by omega, by omega⟩ dL_law_961 ?_
          refine m_eqs (w := x935) (by rw [ex935, show x949.toInt.toNat = x933.toInt.toNat by omega]) ?_
          refine m_callV (n := 2) (ci := 11) (st := []) C (c_X12_ask l G τ936 (x932) (x935) i937 ) (by decide) (by decide) rfl rfl rfl q5_197 q5_194 q5_195 q5_196 q1_7 (by decide +kernel) rfl (by decide) ⟨by show (250 + 8 * y3.toInt.toNat) + 0 ≤ 600000; omega, by show (5300 + 24 * y3.toInt.toNat) + 0 ≤ 7302250; omega⟩ rfl (Nat.le_of_ble_eq_true rfl) dL_law_962 ?_
          rintro _ τ951 ⟨x954, rfl, i952, f953, b955⟩
          have r958 : Rel τ951 := r944.call f953 (by decide) (by decide)
          have r959 : RT τ951 := r945.call f953 (by decide) (by decide)
          have r960 : CA τ951 S I := r946.fr f953 (by decide) (by decide)
          have r961 : MA τ951 S I := r943.fr i937 f953 (by decide) (by decide)
          show MW p l e _ s m _ below meth c _ 4 G (250 + 8 * y3.toInt.toNat) (5300 + 24 * y3.toInt.toNat) 965 [some (.ref b), some (.ref (G.1 0 0)), some (.ref (G.1 22 0)), some (.int y3)] [.int x954] τ951
          refine m_pop C dL_law_965 rfl ?_
          refine m_goto (tgt := 1028) C dL_law_966 (by decide) ?_
          obtain ⟨x962, ex962⟩ : ∃ y : Int32, y = y3 + 6 := ⟨_, rfl⟩
          have tx962 : x962.toInt = y3.toInt + 6 := by rw [ex962, ti_addv b8 kc_6 (by decide), kt_6]
          have b963 : IV x962 6 3072 := by rw [ex962]; exact iv_add b8 kc_6 (by decide)
          refine m_iinc (v := x962) (L1 := [some (.ref b), some (.ref (G.1 0 0)), some (.ref (G.1 22 0)), some (.int x962)]) C dL_law_1028 rfl (by rw [ex962]; rfl) (by decide) rfl rfl ?_
          refine m_goto (tgt := 18) C dL_law_1031 (by decide) ?_
          refine m_widen (c2 := 250 + 8 * x962.toInt.toNat) (s2 := 5300 + 24 * x962.toInt.toNat) (by omega) (by omega) ?_
          exact ih18 τ951 x962 S I i952 r958 r959 r960 r961 (iv_wk b963 (by decide)) (by have q := hm18; omega)
        by_cases s964 : x11.toInt = 27
        · refine m_tableIn (tgt := 969) (off := 936) C dL_law_33 (by omega) (by omega) (by rw [s964]; rfl) (by decide) ?_
          have b965 : IV x11 27 27 := ⟨by omega, by omega⟩
          refine m_aload_n C dL_law_969 rfl rfl ?_
          refine m_aload_n C dL_law_970 rfl rfl ?_
          refine m_iload_n C dL_law_971 rfl rfl ?_
          refine m_iconst (v := 1) C dL_law_972 (by decide) ?_
          refine m_iadd C dL_law_973 ?_
          refine m_topi (fun x966 ex966 => ?_)
          have tx966 : x966.toInt = y3.toInt + 1 := by rw [ex966, ti_addv b8 kc_1 (by decide), kt_1]
          have b967 : IV x966 1 3067 := by rw [ex966]; exact iv_add b8 kc_1 (by decide)
          refine m_sld C hX hbl hbA ⟨by omega, by omega⟩ dL_law_974 ?_
          refine m_topi (fun x968 ex968 => ?_)
          refine m_callV (n := 1) (ci := 10) (st := []) C (c_X11_trace l G τ (x968) iτ ) (by decide) (by decide) rfl rfl rfl q4_97 q4_94 q4_95 q4_96 q1_1 (by decide +kernel) rfl (by decide) ⟨by show (250 + 8 * y3.toInt.toNat) + 0 ≤ 600000; omega, by show (5300 + 24 * y3.toInt.toNat) + 0 ≤ 7302250; omega⟩ rfl (Nat.le_of_ble_eq_true rfl) dL_law_975 ?_
          rintro _ τ969 ⟨x972, rfl, i970, f971, b973⟩
          have r976 : MA τ969 S I := mτ.fr iτ f971 (by decide) (by decide)
          have r977 : Rel τ969 := rτ.call f971 (by decide) (by decide)
          have r978 : RT τ969 := tτ.call f971 (by decide) (by decide)
          have r979 : CA τ969 S I := cτ.fr f971 (by decide) (by decide)
          show MW p l e _ s m _ below meth c _ 4 G (250 + 8 * y3.toInt.toNat) (5300 + 24 * y3.toInt.toNat) 978 [some (.ref b), some (.ref (G.1 0 0)), some (.ref (G.1 22 0)), some (.int y3)] [.int x972] τ969
          refine m_pop C dL_law_978 rfl ?_
          refine m_aload_n C dL_law_979 rfl rfl ?_
          refine m_aload_n C dL_law_980 rfl rfl ?_
          refine m_iload_n C dL_law_981 rfl rfl ?_
          refine m_iconst (v := 1) C dL_law_982 (by decide) ?_
          refine m_iadd C dL_law_983 ?_
          refine m_topi (fun x980 ex980 => ?_)
          have tx980 : x980.toInt = y3.toInt + 1 := by rw [ex980, ti_addv b8 kc_1 (by decide), kt_1]
          have b981 : IV x980 1 3067 := by rw [ex980]; exact iv_add b8 kc_1 (by decide)
          refine m_sld C hX hbl hbA ⟨by omega, by omega⟩ dL_law_984 ?_
          refine m_eqs (w := x968) (by rw [ex968, show x980.toInt.toNat = x966.toInt.toNat by omega]) ?_
          refine m_callV (n := 1) (ci := 11) (st := []) C (c_X12_trace l G τ969 (x968) i970 ) (by decide) (by decide) rfl rfl rfl q5_213 q5_210 q5_211 q5_212 q1_7 (by decide +kernel) rfl (by decide) ⟨by show (250 + 8 * y3.toInt.toNat) + 0 ≤ 600000; omega, by show (5300 + 24 * y3.toInt.toNat) + 0 ≤ 7302250; omega⟩ rfl (Nat.le_of_ble_eq_true rfl) dL_law_985 ?_
          rintro _ τ982 ⟨x985, rfl, i983, f984, b986⟩
          have r989 : Rel τ982 := r977.call f984 (by decide) (by decide)
          have r990 : RT τ982 := r978.call f984 (by decide) (by decide)
          have r991 : CA τ982 S I := r979.fr f984 (by decide) (by decide)
          have r992 : MA τ982 S I := r976.fr i970 f984 (by decide) (by decide)
          show MW p l e _ s m _ below meth c _ 4 G (250 + 8 * y3.toInt.toNat) (5300 + 24 * y3.toInt.toNat) 988 [some (.ref b), some (.ref (G.1 0 0)), some (.ref (G.1 22 0)), some (.int y3)] [.int x985] τ982
          refine m_pop C dL_law_988 rfl ?_
          refine m_goto (tgt := 1028) C dL_law_989 (by decide) ?_
          obtain ⟨x993, ex993⟩ : ∃ y : Int32, y = y3 + 6 := ⟨_, rfl⟩
          have tx993 : x993.toInt = y3.toInt + 6 := by rw [ex993, ti_addv b8 kc_6 (by decide), kt_6]
          have b994 : IV x993 6 3072 := by rw [ex993]; exact iv_add b8 kc_6 (by decide)
          refine m_iinc (v := x993) (L1 := [some (.ref b), some (.ref (G.1 0 0)), some (.ref (G.1 22 0)), some (.int x993)]) C dL_law_1028 rfl (by rw [ex993]; rfl) (by decide) rfl rfl ?_
          refine m_goto (tgt := 18) C dL_law_1031 (by decide) ?_
          refine m_widen (c2 := 250 + 8 * x993.toInt.toNat) (s2 := 5300 + 24 * x993.toInt.toNat) (by omega) (by omega) ?_
          exact ih18 τ982 x993 S I i983 r989 r990 r991 r992 (iv_wk b994 (by decide)) (by have q := hm18; omega)
        by_cases s995 : x11.toInt = 28
        · refine m_tableIn (tgt := 992) (off := 959) C dL_law_33 (by omega) (by omega) (by rw [s995]; rfl) (by decide) ?_
          have b996 : IV x11 28 28 := ⟨by omega, by omega⟩
          refine m_aload_n C dL_law_992 rfl rfl ?_
          refine m_aload_n C dL_law_993 rfl rfl ?_
          refine m_iload_n C dL_law_994 rfl rfl ?_
          refine m_iconst (v := 1) C dL_law_995 (by decide) ?_
          refine m_iadd C dL_law_996 ?_
          refine m_topi (fun x997 ex997 => ?_)
          have tx997 : x997.toInt = y3.toInt + 1 := by rw [ex997, ti_addv b8 kc_1 (by decide), kt_1]
          have b998 : IV x997 1 3067 := by rw [ex997]; exact iv_add b8 kc_1 (by decide)
          refine m_sld C hX hbl hbA ⟨by omega, by omega⟩ dL_law_997 ?_
          refine m_topi (fun x999 ex999 => ?_)
          refine m_callV (n := 1) (ci := 10) (st := []) C (c_X11_count l G τ (x999) iτ ) (by decide) (by decide) rfl rfl rfl q4_101 q4_98 q4_99 q4_100 q1_1 (by decide +kernel) rfl (by decide) ⟨by show (250 + 8 * y3.toInt.toNat) + 0 ≤ 600000; omega, by show (5300 + 24 * y3.toInt.toNat) + 0 ≤ 7302250; omega⟩ rfl (Nat.le_of_ble_eq_true rfl) dL_law_998 ?_
          rintro _ τ1000 ⟨x1003, rfl, i1001, f1002, b1004⟩
          have r1007 : MA τ1000 S I := mτ.fr iτ f1002 (by decide) (by decide)
          have r1008 : Rel τ1000 := rτ.call f1002 (by decide) (by decide)
          have r1009 : RT τ1000 := tτ.call f1002 (by decide) (by decide)
          have r1010 : CA τ1000 S I := cτ.fr f1002 (by decide) (by decide)
          show MW p l e _ s m _ below meth c _ 4 G (250 + 8 * y3.toInt.toNat) (5300 + 24 * y3.toInt.toNat) 1001 [some (.ref b), some (.ref (G.1 0 0)), some (.ref (G.1 22 0)), some (.int y3)] [.int x1003] τ1000
          refine m_pop C dL_law_1001 rfl ?_
          refine m_aload_n C dL_law_1002 rfl rfl ?_
          refine m_aload_n C dL_law_1003 rfl rfl ?_
          refine m_iload_n C dL_law_1004 rfl rfl ?_
          refine m_iconst (v := 1) C dL_law_1005 (by decide) ?_
          refine m_iadd C dL_law_1006 ?_
          refine m_topi (fun x1011 ex1011 => ?_)
          have tx1011 : x1011.toInt = y3.toInt + 1 := by rw [ex1011, ti_addv b8 kc_1 (by decide), kt_1]
          have b1012 : IV x1011 1 3067 := by rw [ex1011]; exact iv_add b8 kc_1 (by decide)
          refine m_sld C hX hbl hbA ⟨by omega, by omega⟩ dL_law_1007 ?_
          refine m_eqs (w := x999) (by rw [ex999, show x1011.toInt.toNat = x997.toInt.toNat by omega]) ?_
          refine m_callV (n := 1) (ci := 11) (st := []) C (c_X12_count l G τ1000 (x999) i1001 ) (by decide) (by decide) rfl rfl rfl q5_217 q5_214 q5_215 q5_216 q1_7 (by decide +kernel) rfl (by decide) ⟨by show (250 + 8 * y3.toInt.toNat) + 0 ≤ 600000; omega, by show (5300 + 24 * y3.toInt.toNat) + 0 ≤ 7302250; omega⟩ rfl (Nat.le_of_ble_eq_true rfl) dL_law_1008 ?_
          rintro _ τ1013 ⟨x1016, rfl, i1014, f1015, b1017⟩
          have r1020 : Rel τ1013 := r1008.call f1015 (by decide) (by decide)
          have r1021 : RT τ1013 := r1009.call f1015 (by decide) (by decide)
          have r1022 : CA τ1013 S I := r1010.fr f1015 (by decide) (by decide)
          have r1023 : MA τ1013 S I := r1007.fr i1001 f1015 (by decide) (by decide)
          show MW p l e _ s m _ below meth c _ 4 G (250 + 8 * y3.toInt.toNat) (5300 + 24 * y3.toInt.toNat) 1011 [some (.ref b), some (.ref (G.1 0 0)), some (.ref (G.1 22 0)), some (.int y3)] [.int x1016] τ1013
          refine m_pop C dL_law_1011 rfl ?_
          refine m_goto (tgt := 1028) C dL_law_1012 (by decide) ?_
          obtain ⟨x1024, ex1024⟩ : ∃ y : Int32, y = y3 + 6 := ⟨_, rfl⟩
          have tx1024 : x1024.toInt = y3.toInt + 6 := by rw [ex1024, ti_addv b8 kc_6 (by decide), kt_6]
          have b1025 : IV x1024 6 3072 := by rw [ex1024]; exact iv_add b8 kc_6 (by decide)
          refine m_iinc (v := x1024) (L1 := [some (.ref b), some (.ref (G.1 0 0)), some (.ref (G.1 22 0)), some (.int x1024)]) C dL_law_1028 rfl (by rw [ex1024]; rfl) (by decide) rfl rfl ?_
          refine m_goto (tgt := 18) C dL_law_1031 (by decide) ?_
          refine m_widen (c2 := 250 + 8 * x1024.toInt.toNat) (s2 := 5300 + 24 * x1024.toInt.toNat) (by omega) (by omega) ?_
          exact ih18 τ1013 x1024 S I i1014 r1020 r1021 r1022 r1023 (iv_wk b1025 (by decide)) (by have q := hm18; omega)
        by_cases s1026 : x11.toInt = 29
        · refine m_tableIn (tgt := 1015) (off := 982) C dL_law_33 (by omega) (by omega) (by rw [s1026]; rfl) (by decide) ?_
          have b1027 : IV x11 29 29 := ⟨by omega, by omega⟩
          refine m_aload_n C dL_law_1015 rfl rfl ?_
          refine m_callV (n := 0) (ci := 10) (st := []) C (c_X11_status l G τ  iτ ) (by decide) (by decide) rfl rfl rfl q4_109 q4_106 q4_107 q4_108 q1_1 (by decide +kernel) rfl (by decide) ⟨by show (250 + 8 * y3.toInt.toNat) + 0 ≤ 600000; omega, by show (5300 + 24 * y3.toInt.toNat) + 0 ≤ 7302250; omega⟩ rfl (Nat.le_of_ble_eq_true rfl) dL_law_1016 ?_
          rintro _ τ1028 ⟨x1031, rfl, i1029, f1030, b1032⟩
          have r1035 : MA τ1028 S I := mτ.fr iτ f1030 (by decide) (by decide)
          have r1036 : Rel τ1028 := rτ.call f1030 (by decide) (by decide)
          have r1037 : RT τ1028 := tτ.call f1030 (by decide) (by decide)
          have r1038 : CA τ1028 S I := cτ.fr f1030 (by decide) (by decide)
          show MW p l e _ s m _ below meth c _ 4 G (250 + 8 * y3.toInt.toNat) (5300 + 24 * y3.toInt.toNat) 1019 [some (.ref b), some (.ref (G.1 0 0)), some (.ref (G.1 22 0)), some (.int y3)] [.int x1031] τ1028
          refine m_pop C dL_law_1019 rfl ?_
          refine m_aload_n C dL_law_1020 rfl rfl ?_
          refine m_callV (n := 0) (ci := 11) (st := []) C (c_X12_status l G τ1028  i1029 ) (by decide) (by decide) rfl rfl rfl q5_221 q5_218 q5_219 q5_220 q1_7 (by decide +kernel) rfl (by decide) ⟨by show (250 + 8 * y3.toInt.toNat) + 0 ≤ 600000; omega, by show (5300 + 24 * y3.toInt.toNat) + 0 ≤ 7302250; omega⟩ rfl (Nat.le_of_ble_eq_true rfl) dL_law_1021 ?_
          rintro _ τ1039 ⟨x1042, rfl, i1040, f1041, b1043⟩
          have r1046 : Rel τ1039 := r1036.call f1041 (by decide) (by decide)
          have r1047 : RT τ1039 := r1037.call f1041 (by decide) (by decide)
          have r1048 : CA τ1039 S I := r1038.fr f1041 (by decide) (by decide)
          have r1049 : MA τ1039 S I := r1035.fr i1029 f1041 (by decide) (by decide)
          show MW p l e _ s m _ below meth c _ 4 G (250 + 8 * y3.toInt.toNat) (5300 + 24 * y3.toInt.toNat) 1024 [some (.ref b), some (.ref (G.1 0 0)), some (.ref (G.1 22 0)), some (.int y3)] [.int x1042] τ1039
          refine m_pop C dL_law_1024 rfl ?_
          refine m_goto (tgt := 1028) C dL_law_1025 (by decide) ?_
          obtain ⟨x1050, ex1050⟩ : ∃ y : Int32, y = y3 + 6 := ⟨_, rfl⟩
          have tx1050 : x1050.toInt = y3.toInt + 6 := by rw [ex1050, ti_addv b8 kc_6 (by decide), kt_6]
          have b1051 : IV x1050 6 3072 := by rw [ex1050]; exact iv_add b8 kc_6 (by decide)
          refine m_iinc (v := x1050) (L1 := [some (.ref b), some (.ref (G.1 0 0)), some (.ref (G.1 22 0)), some (.int x1050)]) C dL_law_1028 rfl (by rw [ex1050]; rfl) (by decide) rfl rfl ?_
          refine m_goto (tgt := 18) C dL_law_1031 (by decide) ?_
          refine m_widen (c2 := 250 + 8 * x1050.toInt.toNat) (s2 := 5300 + 24 * x1050.toInt.toNat) (by omega) (by omega) ?_
          exact ih18 τ1039 x1050 S I i1040 r1046 r1047 r1048 r1049 (iv_wk b1051 (by decide)) (by have q := hm18; omega)
        exact absurd s13 (by omega)
end LAW
