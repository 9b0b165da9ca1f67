section LAW
set_option maxHeartbeats 8000000 in
set_option maxRecDepth 100000 in
theorem law_loop {p : Program} {e : Env} {s : State} {m : MethodId} {below : List Frame} {meth : Method} {c : Code} (l : Launch) {b L : Nat} {xs : Nat → Int32} (hL : L ≤ 3072) (C0 : lw_At p s m meth c b L xs) (G : Gt) (hG0 : G.2.2.2.1 = s.heap.size) : ∀ (n : Nat) (τ : Sg) (y3 : Int32), Inv τ → Rel τ → IV y3 0 3078 → (3078 - y3.toInt).toNat < n → MW p l e room_1 s m #[Value.ref b] below meth c (lw_Z below #[Value.ref b] s) 4 G (250 + 8 * y3.toInt.toNat) (5300 + 24 * y3.toInt.toNat) 18 [some (.ref b), some (.ref (G.1 0 0)), some (.ref (G.1 22 0)), some (.int y3)] [] τ := by
  obtain ⟨hx, hb, hr, hml, hown, hts, hX, hbl, hlk, hgv⟩ := C0
  have C : Cx p s m #[Value.ref b] c cL_law 4 "LeanTowerLaw" := ⟨hx, hb, hml, hown, fun w hw => hts w (List.mem_filter.mp hw).1⟩
  have hbA : ¬ aG G b := fun q => by have q2 : G.2.2.2.1 ≤ b := q; omega
  have hL31 : L < 2 ^ 31 := by omega
  have k0 : (0 : Int32).toInt = 0 := by decide
  have k1 : (1 : Int32).toInt = 1 := by decide
  intro n
  induction n with
  | zero => intro τ y3 iτ rτ b_y3 hm; exact absurd hm (Nat.not_lt_zero _)
  | succ n ih18 =>
      intro τ y3 iτ rτ b_y3 hm18
      refine m_iload_n C dL_law_18 rfl rfl ?_
      refine m_aload_n C dL_law_19 rfl rfl ?_
      refine m_slen C hX hbl hbA hL31 dL_law_20 (fun x1 tx1 => ?_)
      have b2 : IV x1 0 3072 := ⟨by omega, by omega⟩
      refine m_bipush (v := 6) C dL_law_21 (by decide) ?_
      refine m_isub C dL_law_23 ?_
      refine m_topi (fun x3 ex3 => ?_)
      have tx3 : x3.toInt = x1.toInt - 6 := by rw [ex3, ti_subv b2 kc_6 (by decide), kt_6]
      have b4 : IV x3 (-6) 3066 := by rw [ex3]; exact iv_sub b2 kc_6 (by decide)
      refine m_icmp_gt (tgt := 1034) C dL_law_24 (by decide) (fun c5 => ?_) (fun c5 => ?_)
      · have f6 : x3.toInt < y3.toInt := by
          have q : _ := c5
          simp only [ti_nle, ti_nlt, ti_le, ti_lt, ti_eq, ti_ne, Classical.not_not] at q
          omega
        refine m_iconst (v := 1) C dL_law_1034 (by decide) ?_
        exact m_law1 C hG0 hr hlk ⟨by omega, by omega⟩ dL_law_1035
      · have f7 : y3.toInt ≤ x3.toInt := by
          have q : _ := c5
          simp only [ti_nle, ti_nlt, ti_le, ti_lt, ti_eq, ti_ne, Classical.not_not] at q
          omega
        have b8 : IV y3 0 3066 := ⟨by have q1 := b_y3; have q2 := b4; omega, by have q1 := b_y3; have q2 := b4; omega⟩
        have b9 : IV x3 0 3066 := ⟨by have q1 := b_y3; have q2 := b4; omega, by have q1 := b_y3; have q2 := b4; omega⟩
        refine m_aload_n C dL_law_27 rfl rfl ?_
        refine m_iload_n C dL_law_28 rfl rfl ?_
        refine m_sld C hX hbl hbA ⟨by omega, by omega⟩ dL_law_29 ?_
        refine m_topi (fun x10 ex10 => ?_)
        refine m_bipush (v := 31) C dL_law_30 (by decide) ?_
        refine m_iand C dL_law_32 ?_
        refine m_topi (fun x11 ex11 => ?_)
        have b12 : IV x11 0 31 := by rw [ex11]; exact iv_and_r kc_31 (by decide)
        by_cases s13 : x11.toInt < 0 ∨ 29 < x11.toInt
        · refine m_tableOut (tgt := 1028) C dL_law_33 s13 (by decide) ?_
          obtain ⟨x14, ex14⟩ : ∃ y : Int32, y = y3 + 6 := ⟨_, rfl⟩
          have tx14 : x14.toInt = y3.toInt + 6 := by rw [ex14, ti_addv b8 kc_6 (by decide), kt_6]
          have b15 : IV x14 6 3072 := by rw [ex14]; exact iv_add b8 kc_6 (by decide)
          refine m_iinc (v := x14) (L1 := [some (.ref b), some (.ref (G.1 0 0)), some (.ref (G.1 22 0)), some (.int x14)]) C dL_law_1028 rfl (by rw [ex14]; rfl) (by decide) rfl rfl ?_
          refine m_goto (tgt := 18) C dL_law_1031 (by decide) ?_
          refine m_widen (c2 := 250 + 8 * x14.toInt.toNat) (s2 := 5300 + 24 * x14.toInt.toNat) (by omega) (by omega) ?_
          exact ih18 τ x14 iτ rτ (iv_wk b15 (by decide)) (by have q := hm18; omega)
        by_cases s16 : x11.toInt = 0
        · refine m_tableIn (tgt := 168) (off := 135) C dL_law_33 (by omega) (by omega) (by rw [s16]; rfl) (by decide) ?_
          have b17 : IV x11 0 0 := ⟨by omega, by omega⟩
          refine m_aload_n C dL_law_168 rfl rfl ?_
          refine m_aload_n C dL_law_169 rfl rfl ?_
          refine m_iload_n C dL_law_170 rfl rfl ?_
          refine m_iconst (v := 1) C dL_law_171 (by decide) ?_
          refine m_iadd C dL_law_172 ?_
          refine m_topi (fun x18 ex18 => ?_)
          have tx18 : x18.toInt = y3.toInt + 1 := by rw [ex18, ti_addv b8 kc_1 (by decide), kt_1]
          have b19 : IV x18 1 3067 := by rw [ex18]; exact iv_add b8 kc_1 (by decide)
          refine m_sld C hX hbl hbA ⟨by omega, by omega⟩ dL_law_173 ?_
          refine m_topi (fun x20 ex20 => ?_)
          refine m_aload_n C dL_law_174 rfl rfl ?_
          refine m_iload_n C dL_law_175 rfl rfl ?_
          refine m_iconst (v := 2) C dL_law_176 (by decide) ?_
          refine m_iadd C dL_law_177 ?_
          refine m_topi (fun x21 ex21 => ?_)
          have tx21 : x21.toInt = y3.toInt + 2 := by rw [ex21, ti_addv b8 kc_2 (by decide), kt_2]
          have b22 : IV x21 2 3068 := by rw [ex21]; exact iv_add b8 kc_2 (by decide)
          refine m_sld C hX hbl hbA ⟨by omega, by omega⟩ dL_law_178 ?_
          refine m_topi (fun x23 ex23 => ?_)
          refine m_aload_n C dL_law_179 rfl rfl ?_
          refine m_iload_n C dL_law_180 rfl rfl ?_
          refine m_iconst (v := 3) C dL_law_181 (by decide) ?_
          refine m_iadd C dL_law_182 ?_
          refine m_topi (fun x24 ex24 => ?_)
          have tx24 : x24.toInt = y3.toInt + 3 := by rw [ex24, ti_addv b8 kc_3 (by decide), kt_3]
          have b25 : IV x24 3 3069 := by rw [ex24]; exact iv_add b8 kc_3 (by decide)
          refine m_sld C hX hbl hbA ⟨by omega, by omega⟩ dL_law_183 ?_
          refine m_topi (fun x26 ex26 => ?_)
          refine m_callV (n := 3) (ci := 10) (st := []) C (c_X11_rowE l G τ (x20) (x23) (x26) iτ ) (by decide) (by decide) rfl rfl rfl q1_229 q1_226 q1_227 q1_228 q1_1 (by decide +kernel) rfl (by decide) ⟨by show (250 + 8 * y3.toInt.toNat) + 0 ≤ 600000; omega, by show (5300 + 24 * y3.toInt.toNat) + 0 ≤ 7302250; omega⟩ rfl (Nat.le_of_ble_eq_true rfl) dL_law_184 ?_
          rintro _ τ27 ⟨x30, rfl, i28, f29, b31, h33⟩
          show MW p l e _ s m _ below meth c _ 4 G (250 + 8 * y3.toInt.toNat) (5300 + 24 * y3.toInt.toNat) 187 [some (.ref b), some (.ref (G.1 0 0)), some (.ref (G.1 22 0)), some (.int y3)] [.int x30] τ27
          refine m_pop C dL_law_187 rfl ?_
          refine m_aload_n C dL_law_188 rfl rfl ?_
          refine m_aload_n C dL_law_189 rfl rfl ?_
          refine m_iload_n C dL_law_190 rfl rfl ?_
          refine m_iconst (v := 1) C dL_law_191 (by decide) ?_
          refine m_iadd C dL_law_192 ?_
          refine m_topi (fun x34 ex34 => ?_)
          have tx34 : x34.toInt = y3.toInt + 1 := by rw [ex34, ti_addv b8 kc_1 (by decide), kt_1]
          have b35 : IV x34 1 3067 := by rw [ex34]; exact iv_add b8 kc_1 (by decide)
          refine m_sld C hX hbl hbA ⟨by omega, by omega⟩ dL_law_193 ?_
          refine m_eqs (w := x20) (by rw [ex20, show x34.toInt.toNat = x18.toInt.toNat by omega]) ?_
          refine m_aload_n C dL_law_194 rfl rfl ?_
          refine m_iload_n C dL_law_195 rfl rfl ?_
          refine m_iconst (v := 2) C dL_law_196 (by decide) ?_
          refine m_iadd C dL_law_197 ?_
          refine m_topi (fun x36 ex36 => ?_)
          have tx36 : x36.toInt = y3.toInt + 2 := by rw [ex36, ti_addv b8 kc_2 (by decide), kt_2]
          have b37 : IV x36 2 3068 := by rw [ex36]; exact iv_add b8 kc_2 (by decide)
          refine m_sld C hX hbl hbA ⟨by omega, by omega⟩ dL_law_198 ?_
          refine m_eqs (w := x23) (by rw [ex23, show x36.toInt.toNat = x21.toInt.toNat by omega]) ?_
          refine m_aload_n C dL_law_199 rfl rfl ?_
          refine m_iload_n C dL_law_200 rfl rfl ?_
          refine m_iconst (v := 3) C dL_law_201 (by decide) ?_
          refine m_iadd C dL_law_202 ?_
          refine m_topi (fun x38 ex38 => ?_)
          have tx38 : x38.toInt = y3.toInt + 3 := by rw [ex38, ti_addv b8 kc_3 (by decide), kt_3]
          have b39 : IV x38 3 3069 := by rw [ex38]; exact iv_add b8 kc_3 (by decide)
          refine m_sld C hX hbl hbA ⟨by omega, by omega⟩ dL_law_203 ?_
          refine m_eqs (w := x26) (by rw [ex26, show x38.toInt.toNat = x24.toInt.toNat by omega]) ?_
          refine m_callV (n := 3) (ci := 11) (st := []) C (c_X12_rowE l G τ27 (x20) (x23) (x26) i28 ) (by decide) (by decide) rfl rfl rfl q4_183 q4_180 q4_181 q4_182 q1_7 (by decide +kernel) rfl (by decide) ⟨by show (250 + 8 * y3.toInt.toNat) + 0 ≤ 600000; omega, by show (5300 + 24 * y3.toInt.toNat) + 0 ≤ 7302250; omega⟩ rfl (Nat.le_of_ble_eq_true rfl) dL_law_204 ?_
          rintro _ τ40 ⟨x43, rfl, i41, f42, b44, h46⟩
          have g47 := Rel.rowB rτ f29 f42 h33 h46
          have r48 : Rel τ40 := g47.1
          have q49 := g47.2
          show MW p l e _ s m _ below meth c _ 4 G (250 + 8 * y3.toInt.toNat) (5300 + 24 * y3.toInt.toNat) 207 [some (.ref b), some (.ref (G.1 0 0)), some (.ref (G.1 22 0)), some (.int y3)] [.int x43] τ40
          refine m_pop C dL_law_207 rfl ?_
          refine m_goto (tgt := 1028) C dL_law_208 (by decide) ?_
          obtain ⟨x50, ex50⟩ : ∃ y : Int32, y = y3 + 6 := ⟨_, rfl⟩
          have tx50 : x50.toInt = y3.toInt + 6 := by rw [ex50, ti_addv b8 kc_6 (by decide), kt_6]
          have b51 : IV x50 6 3072 := by rw [ex50]; exact iv_add b8 kc_6 (by decide)
          refine m_iinc (v := x50) (L1 := [some (.ref b), some (.ref (G.1 0 0)), some (.ref (G.1 22 0)), some (.int x50)]) C dL_law_1028 rfl (by rw [ex50]; rfl) (by decide) rfl rfl ?_
          refine m_goto (tgt := 18) C dL_law_1031 (by decide) ?_
          refine m_widen (c2 := 250 + 8 * x50.toInt.toNat) (s2 := 5300 + 24 * x50.toInt.toNat) (by omega) (by omega) ?_
          exact ih18 τ40 x50 i41 r48 (iv_wk b51 (by decide)) (by have q := hm18; omega)
        by_cases s52 : x11.toInt = 1
        · refine m_tableIn (tgt := 211) (off := 178) C dL_law_33 (by omega) (by omega) (by rw [s52]; rfl) (by decide) ?_
          have b53 : IV x11 1 1 := ⟨by omega, by omega⟩
          refine m_aload_n C dL_law_211 rfl rfl ?_
          refine m_aload_n C dL_law_212 rfl rfl ?_
          refine m_iload_n C dL_law_213 rfl rfl ?_
          refine m_iconst (v := 1) C dL_law_214 (by decide) ?_
          refine m_iadd C dL_law_215 ?_
          refine m_topi (fun x54 ex54 => ?_)
          have tx54 : x54.toInt = y3.toInt + 1 := by rw [ex54, ti_addv b8 kc_1 (by decide), kt_1]
          have b55 : IV x54 1 3067 := by rw [ex54]; exact iv_add b8 kc_1 (by decide)
          refine m_sld C hX hbl hbA ⟨by omega, by omega⟩ dL_law_216 ?_
          refine m_topi (fun x56 ex56 => ?_)
          refine m_aload_n C dL_law_217 rfl rfl ?_
          refine m_iload_n C dL_law_218 rfl rfl ?_
          refine m_iconst (v := 2) C dL_law_219 (by decide) ?_
          refine m_iadd C dL_law_220 ?_
          refine m_topi (fun x57 ex57 => ?_)
          have tx57 : x57.toInt = y3.toInt + 2 := by rw [ex57, ti_addv b8 kc_2 (by decide), kt_2]
          have b58 : IV x57 2 3068 := by rw [ex57]; exact iv_add b8 kc_2 (by decide)
          refine m_sld C hX hbl hbA ⟨by omega, by omega⟩ dL_law_221 ?_
          refine m_topi (fun x59 ex59 => ?_)
          refine m_aload_n C dL_law_222 rfl rfl ?_
          refine m_iload_n C dL_law_223 rfl rfl ?_
          refine m_iconst (v := 3) C dL_law_224 (by decide) ?_
          refine m_iadd C dL_law_225 ?_
          refine m_topi (fun x60 ex60 => ?_)
          have tx60 : x60.toInt = y3.toInt + 3 := by rw [ex60, ti_addv b8 kc_3 (by decide), kt_3]
          have b61 : IV x60 3 3069 := by rw [ex60]; exact iv_add b8 kc_3 (by decide)
          refine m_sld C hX hbl hbA ⟨by omega, by omega⟩ dL_law_226 ?_
          refine m_topi (fun x62 ex62 => ?_)
          refine m_callV (n := 3) (ci := 10) (st := []) C (c_X11_setE l G τ (x56) (x59) (x62) iτ ) (by decide) (by decide) rfl rfl rfl q2_11 q2_8 q2_9 q2_10 q1_1 (by decide +kernel) rfl (by decide) ⟨by show (250 + 8 * y3.toInt.toNat) + 0 ≤ 600000; omega, by show (5300 + 24 * y3.toInt.toNat) + 0 ≤ 7302250; omega⟩ rfl (Nat.le_of_ble_eq_true rfl) dL_law_227 ?_
          rintro _ τ63 ⟨x66, rfl, i64, f65, b67, h69⟩
          have r70 : Rel τ63 := rτ.call f65 (by decide) (by decide)
          show MW p l e _ s m _ below meth c _ 4 G (250 + 8 * y3.toInt.toNat) (5300 + 24 * y3.toInt.toNat) 230 [some (.ref b), some (.ref (G.1 0 0)), some (.ref (G.1 22 0)), some (.int y3)] [.int x66] τ63
          refine m_pop C dL_law_230 rfl ?_
          refine m_aload_n C dL_law_231 rfl rfl ?_
          refine m_aload_n C dL_law_232 rfl rfl ?_
          refine m_iload_n C dL_law_233 rfl rfl ?_
          refine m_iconst (v := 1) C dL_law_234 (by decide) ?_
          refine m_iadd C dL_law_235 ?_
          refine m_topi (fun x71 ex71 => ?_)
          have tx71 : x71.toInt = y3.toInt + 1 := by rw [ex71, ti_addv b8 kc_1 (by decide), kt_1]
          have b72 : IV x71 1 3067 := by rw [ex71]; exact iv_add b8 kc_1 (by decide)
          refine m_sld C hX hbl hbA ⟨by omega, by omega⟩ dL_law_236 ?_
          refine m_eqs (w := x56) (by rw [ex56, show x71.toInt.toNat = x54.toInt.toNat by omega]) ?_
          refine m_aload_n C dL_law_237 rfl rfl ?_
          refine m_iload_n C dL_law_238 rfl rfl ?_
          refine m_iconst (v := 2) C dL_law_239 (by decide) ?_
          refine m_iadd C dL_law_240 ?_
          refine m_topi (fun x73 ex73 => ?_)
          have tx73 : x73.toInt = y3.toInt + 2 := by rw [ex73, ti_addv b8 kc_2 (by decide), kt_2]
          have b74 : IV x73 2 3068 := by rw [ex73]; exact iv_add b8 kc_2 (by decide)
          refine m_sld C hX hbl hbA ⟨by omega, by omega⟩ dL_law_241 ?_
          refine m_eqs (w := x59) (by rw [ex59, show x73.toInt.toNat = x57.toInt.toNat by omega]) ?_
          refine m_aload_n C dL_law_242 rfl rfl ?_
          refine m_iload_n C dL_law_243 rfl rfl ?_
          refine m_iconst (v := 3) C dL_law_244 (by decide) ?_
          refine m_iadd C dL_law_245 ?_
          refine m_topi (fun x75 ex75 => ?_)
          have tx75 : x75.toInt = y3.toInt + 3 := by rw [ex75, ti_addv b8 kc_3 (by decide), kt_3]
          have b76 : IV x75 3 3069 := by rw [ex75]; exact iv_add b8 kc_3 (by decide)
          refine m_sld C hX hbl hbA ⟨by omega, by omega⟩ dL_law_246 ?_
          refine m_eqs (w := x62) (by rw [ex62, show x75.toInt.toNat = x60.toInt.toNat by omega]) ?_
          refine m_callV (n := 3) (ci := 11) (st := []) C (c_X12_setE l G τ63 (x56) (x59) (x62) i64 ) (by decide) (by decide) rfl rfl rfl q4_205 q4_202 q4_203 q4_204 q1_7 (by decide +kernel) rfl (by decide) ⟨by show (250 + 8 * y3.toInt.toNat) + 0 ≤ 600000; omega, by show (5300 + 24 * y3.toInt.toNat) + 0 ≤ 7302250; omega⟩ rfl (Nat.le_of_ble_eq_true rfl) dL_law_247 ?_
          rintro _ τ77 ⟨x80, rfl, i78, f79, b81, h83⟩
          have g84 := Rel.setB rτ f65 f79 h69 h83
          have r85 : Rel τ77 := r70.call f79 (by decide) (by decide)
          show MW p l e _ s m _ below meth c _ 4 G (250 + 8 * y3.toInt.toNat) (5300 + 24 * y3.toInt.toNat) 250 [some (.ref b), some (.ref (G.1 0 0)), some (.ref (G.1 22 0)), some (.int y3)] [.int x80] τ77
          refine m_pop C dL_law_250 rfl ?_
          refine m_goto (tgt := 1028) C dL_law_251 (by decide) ?_
          obtain ⟨x86, ex86⟩ : ∃ y : Int32, y = y3 + 6 := ⟨_, rfl⟩
          have tx86 : x86.toInt = y3.toInt + 6 := by rw [ex86, ti_addv b8 kc_6 (by decide), kt_6]
          have b87 : IV x86 6 3072 := by rw [ex86]; exact iv_add b8 kc_6 (by decide)
          refine m_iinc (v := x86) (L1 := [some (.ref b), some (.ref (G.1 0 0)), some (.ref (G.1 22 0)), some (.int x86)]) C dL_law_1028 rfl (by rw [ex86]; rfl) (by decide) rfl rfl ?_
          refine m_goto (tgt := 18) C dL_law_1031 (by decide) ?_
          refine m_widen (c2 := 250 + 8 * x86.toInt.toNat) (s2 := 5300 + 24 * x86.toInt.toNat) (by omega) (by omega) ?_
          exact ih18 τ77 x86 i78 r85 (iv_wk b87 (by decide)) (by have q := hm18; omega)
        by_cases s88 : x11.toInt = 2
        · refine m_tableIn (tgt := 254) (off := 221) C dL_law_33 (by omega) (by omega) (by rw [s88]; rfl) (by decide) ?_
          have b89 : IV x11 2 2 := ⟨by omega, by omega⟩
          refine m_aload_n C dL_law_254 rfl rfl ?_
          refine m_aload_n C dL_law_255 rfl rfl ?_
          refine m_iload_n C dL_law_256 rfl rfl ?_
          refine m_iconst (v := 1) C dL_law_257 (by decide) ?_
          refine m_iadd C dL_law_258 ?_
          refine m_topi (fun x90 ex90 => ?_)
          have tx90 : x90.toInt = y3.toInt + 1 := by rw [ex90, ti_addv b8 kc_1 (by decide), kt_1]
          have b91 : IV x90 1 3067 := by rw [ex90]; exact iv_add b8 kc_1 (by decide)
          refine m_sld C hX hbl hbA ⟨by omega, by omega⟩ dL_law_259 ?_
          refine m_topi (fun x92 ex92 => ?_)
          refine m_aload_n C dL_law_260 rfl rfl ?_
          refine m_iload_n C dL_law_261 rfl rfl ?_
          refine m_iconst (v := 2) C dL_law_262 (by decide) ?_
          refine m_iadd C dL_law_263 ?_
          refine m_topi (fun x93 ex93 => ?_)
          have tx93 : x93.toInt = y3.toInt + 2 := by rw [ex93, ti_addv b8 kc_2 (by decide), kt_2]
          have b94 : IV x93 2 3068 := by rw [ex93]; exact iv_add b8 kc_2 (by decide)
          refine m_sld C hX hbl hbA ⟨by omega, by omega⟩ dL_law_264 ?_
          refine m_topi (fun x95 ex95 => ?_)
          refine m_aload_n C dL_law_265 rfl rfl ?_
          refine m_iload_n C dL_law_266 rfl rfl ?_
          refine m_iconst (v := 3) C dL_law_267 (by decide) ?_
          refine m_iadd C dL_law_268 ?_
          refine m_topi (fun x96 ex96 => ?_)
          have tx96 : x96.toInt = y3.toInt + 3 := by rw [ex96, ti_addv b8 kc_3 (by decide), kt_3]
          have b97 : IV x96 3 3069 := by rw [ex96]; exact iv_add b8 kc_3 (by decide)
          refine m_sld C hX hbl hbA ⟨by omega, by omega⟩ dL_law_269 ?_
          refine m_topi (fun x98 ex98 => ?_)
          refine m_aload_n C dL_law_270 rfl rfl ?_
          refine m_iload_n C dL_law_271 rfl rfl ?_
          refine m_iconst (v := 4) C dL_law_272 (by decide) ?_
          refine m_iadd C dL_law_273 ?_
          refine m_topi (fun x99 ex99 => ?_)
          have tx99 : x99.toInt = y3.toInt + 4 := by rw [ex99, ti_addv b8 kc_4 (by decide), kt_4]
          have b100 : IV x99 4 3070 := by rw [ex99]; exact iv_add b8 kc_4 (by decide)
          refine m_sld C hX hbl hbA ⟨by omega, by omega⟩ dL_law_274 ?_
          refine m_topi (fun x101 ex101 => ?_)
          refine m_aload_n C dL_law_275 rfl rfl ?_
          refine m_iload_n C dL_law_276 rfl rfl ?_
          refine m_iconst (v := 5) C dL_law_277 (by decide) ?_
          refine m_iadd C dL_law_278 ?_
          refine m_topi (fun x102 ex102 => ?_)
          have tx102 : x102.toInt = y3.toInt + 5 := by rw [ex102, ti_addv b8 kc_5 (by decide), kt_5]
          have b103 : IV x102 5 3071 := by rw [ex102]; exact iv_add b8 kc_5 (by decide)
          refine m_sld C hX hbl hbA ⟨by omega, by omega⟩ dL_law_279 ?_
          refine m_topi (fun x104 ex104 => ?_)
          refine m_callV (n := 5) (ci := 10) (st := []) C (c_X11_copyE l G τ (x92) (x95) (x98) (x101) (x104) iτ ) (by decide) (by decide) rfl rfl rfl q2_23 q2_20 q2_21 q2_22 q1_1 (by decide +kernel) rfl (by decide) ⟨by show (250 + 8 * y3.toInt.toNat) + 0 ≤ 600000; omega, by show (5300 + 24 * y3.toInt.toNat) + 0 ≤ 7302250; omega⟩ rfl (Nat.le_of_ble_eq_true rfl) dL_law_280 ?_
          rintro _ τ105 ⟨x108, rfl, i106, f107, b109, h111⟩
          have r112 : Rel τ105 := rτ.call f107 (by decide) (by decide)
          show MW p l e _ s m _ below meth c _ 4 G (250 + 8 * y3.toInt.toNat) (5300 + 24 * y3.toInt.toNat) 283 [some (.ref b), some (.ref (G.1 0 0)), some (.ref (G.1 22 0)), some (.int y3)] [.int x108] τ105
          refine m_pop C dL_law_283 rfl ?_
          refine m_aload_n C dL_law_284 rfl rfl ?_
          refine m_aload_n C dL_law_285 rfl rfl ?_
          refine m_iload_n C dL_law_286 rfl rfl ?_
          refine m_iconst (v := 1) C dL_law_287 (by decide) ?_
          refine m_iadd C dL_law_288 ?_
          refine m_topi (fun x113 ex113 => ?_)
          have tx113 : x113.toInt = y3.toInt + 1 := by rw [ex113, ti_addv b8 kc_1 (by decide), kt_1]
          have b114 : IV x113 1 3067 := by rw [ex113]; exact iv_add b8 kc_1 (by decide)
          refine m_sld C hX hbl hbA ⟨by omega, by omega⟩ dL_law_289 ?_
          refine m_eqs (w := x92) (by rw [ex92, show x113.toInt.toNat = x90.toInt.toNat by omega]) ?_
          refine m_aload_n C dL_law_290 rfl rfl ?_
          refine m_iload_n C dL_law_291 rfl rfl ?_
          refine m_iconst (v := 2) C dL_law_292 (by decide) ?_
          refine m_iadd C dL_law_293 ?_
          refine m_topi (fun x115 ex115 => ?_)
          have tx115 : x115.toInt = y3.toInt + 2 := by rw [ex115, ti_addv b8 kc_2 (by decide), kt_2]
          have b116 : IV x115 2 3068 := by rw [ex115]; exact iv_add b8 kc_2 (by decide)
          refine m_sld C hX hbl hbA ⟨by omega, by omega⟩ dL_law_294 ?_
          refine m_eqs (w := x95) (by rw [ex95, show x115.toInt.toNat = x93.toInt.toNat by omega]) ?_
          refine m_aload_n C dL_law_295 rfl rfl ?_
          refine m_iload_n C dL_law_296 rfl rfl ?_
          refine m_iconst (v := 3) C dL_law_297 (by decide) ?_
          refine m_iadd C dL_law_298 ?_
          refine m_topi (fun x117 ex117 => ?_)
          have tx117 : x117.toInt = y3.toInt + 3 := by rw [ex117, ti_addv b8 kc_3 (by decide), kt_3]
          have b118 : IV x117 3 3069 := by rw [ex117]; exact iv_add b8 kc_3 (by decide)
          refine m_sld C hX hbl hbA ⟨by omega, by omega⟩ dL_law_299 ?_
          refine m_eqs (w := x98) (by rw [ex98, show x117.toInt.toNat = x96.toInt.toNat by omega]) ?_
          refine m_aload_n C dL_law_300 rfl rfl ?_
          refine m_iload_n C dL_law_301 rfl rfl ?_
          refine m_iconst (v := 4) C dL_law_302 (by decide) ?_
          refine m_iadd C dL_law_303 ?_
          refine m_topi (fun x119 ex119 => ?_)
          have tx119 : x119.toInt = y3.toInt + 4 := by rw [ex119, ti_addv b8 kc_4 (by decide), kt_4]
          have b120 : IV x119 4 3070 := by rw [ex119]; exact iv_add b8 kc_4 (by decide)
          refine m_sld C hX hbl hbA ⟨by omega, by omega⟩ dL_law_304 ?_
          refine m_eqs (w := x101) (by rw [ex101, show x119.toInt.toNat = x99.toInt.toNat by omega]) ?_
          refine m_aload_n C dL_law_305 rfl rfl ?_
          refine m_iload_n C dL_law_306 rfl rfl ?_
          refine m_iconst (v := 5) C dL_law_307 (by decide) ?_
          refine m_iadd C dL_law_308 ?_
          refine m_topi (fun x121 ex121 => ?_)
          have tx121 : x121.toInt = y3.toInt + 5 := by rw [ex121, ti_addv b8 kc_5 (by decide), kt_5]
          have b122 : IV x121 5 3071 := by rw [ex121]; exact iv_add b8 kc_5 (by decide)
          refine m_sld C hX hbl hbA ⟨by omega, by omega⟩ dL_law_309 ?_
          refine m_eqs (w := x104) (by rw [ex104, show x121.toInt.toNat = x102.toInt.toNat by omega]) ?_
          refine m_callV (n := 5) (ci := 11) (st := []) C (c_X12_copyE l G τ105 (x92) (x95) (x98) (x101) (x104) i106 ) (by decide) (by decide) rfl rfl rfl q4_212 q4_209 q4_210 q4_211 q1_7 (by decide +kernel) rfl (by decide) ⟨by show (250 + 8 * y3.toInt.toNat) + 0 ≤ 600000; omega, by show (5300 + 24 * y3.toInt.toNat) + 0 ≤ 7302250; omega⟩ rfl (Nat.le_of_ble_eq_true rfl) dL_law_310 ?_
          rintro _ τ123 ⟨x126, rfl, i124, f125, b127, h129⟩
          have g130 := Rel.copyB rτ f107 f125 h111 h129
          have r131 : Rel τ123 := r112.call f125 (by decide) (by decide)
          show MW p l e _ s m _ below meth c _ 4 G (250 + 8 * y3.toInt.toNat) (5300 + 24 * y3.toInt.toNat) 313 [some (.ref b), some (.ref (G.1 0 0)), some (.ref (G.1 22 0)), some (.int y3)] [.int x126] τ123
          refine m_pop C dL_law_313 rfl ?_
          refine m_goto (tgt := 1028) C dL_law_314 (by decide) ?_
          obtain ⟨x132, ex132⟩ : ∃ y : Int32, y = y3 + 6 := ⟨_, rfl⟩
          have tx132 : x132.toInt = y3.toInt + 6 := by rw [ex132, ti_addv b8 kc_6 (by decide), kt_6]
          have b133 : IV x132 6 3072 := by rw [ex132]; exact iv_add b8 kc_6 (by decide)
          refine m_iinc (v := x132) (L1 := [some (.ref b), some (.ref (G.1 0 0)), some (.ref (G.1 22 0)), some (.int x132)]) C dL_law_1028 rfl (by rw [ex132]; rfl) (by decide) rfl rfl ?_
          refine m_goto (tgt := 18) C dL_law_1031 (by decide) ?_
          refine m_widen (c2 := 250 + 8 * x132.toInt.toNat) (s2 := 5300 + 24 * x132.toInt.toNat) (by omega) (by omega) ?_
          exact ih18 τ123 x132 i124 r131 (iv_wk b133 (by decide)) (by have q := hm18; omega)
        by_cases s134 : x11.toInt = 3
        · refine m_tableIn (tgt := 317) (off := 284) C dL_law_33 (by omega) (by omega) (by rw [s134]; rfl) (by decide) ?_
          have b135 : IV x11 3 3 := ⟨by omega, by omega⟩
          refine m_aload_n C dL_law_317 rfl rfl ?_
          refine m_aload_n C dL_law_318 rfl rfl ?_
          refine m_iload_n C dL_law_319 rfl rfl ?_
          refine m_iconst (v := 1) C dL_law_320 (by decide) ?_
          refine m_iadd C dL_law_321 ?_
          refine m_topi (fun x136 ex136 => ?_)
          have tx136 : x136.toInt = y3.toInt + 1 := by rw [ex136, ti_addv b8 kc_1 (by decide), kt_1]
          have b137 : IV x136 1 3067 := by rw [ex136]; exact iv_add b8 kc_1 (by decide)
          refine m_sld C hX hbl hbA ⟨by omega, by omega⟩ dL_law_322 ?_
          refine m_topi (fun x138 ex138 => ?_)
          refine m_callV (n := 1) (ci := 10) (st := []) C (c_X11_dropE l G τ (x138) iτ ) (by decide) (by decide) rfl rfl rfl q2_34 q2_31 q2_32 q2_33 q1_1 (by decide +kernel) rfl (by decide) ⟨by show (250 + 8 * y3.toInt.toNat) + 0 ≤ 600000; omega, by show (5300 + 24 * y3.toInt.toNat) + 0 ≤ 7302250; omega⟩ rfl (Nat.le_of_ble_eq_true rfl) dL_law_323 ?_
          rintro _ τ139 ⟨x142, rfl, i140, f141, b143, h145⟩
          show MW p l e _ s m _ below meth c _ 4 G (250 + 8 * y3.toInt.toNat) (5300 + 24 * y3.toInt.toNat) 326 [some (.ref b), some (.ref (G.1 0 0)), some (.ref (G.1 22 0)), some (.int y3)] [.int x142] τ139
          refine m_aload_n C dL_law_326 rfl rfl ?_
          refine m_aload_n C dL_law_327 rfl rfl ?_
          refine m_iload_n C dL_law_328 rfl rfl ?_
          refine m_iconst (v := 1) C dL_law_329 (by decide) ?_
          refine m_iadd C dL_law_330 ?_
          refine m_topi (fun x146 ex146 => ?_)
          have tx146 : x146.toInt = y3.toInt + 1 := by rw [ex146, ti_addv b8 kc_1 (by decide), kt_1]
          have b147 : IV x146 1 3067 := by rw [ex146]; exact iv_add b8 kc_1 (by decide)
          refine m_sld C hX hbl hbA ⟨by omega, by omega⟩ dL_law_331 ?_
          refine m_eqs (w := x138) (by rw [ex138, show x146.toInt.toNat = x136.toInt.toNat by omega]) ?_
          refine m_callV (n := 1) (ci := 11) (st := [.int x142]) C (c_X12_dropE l G τ139 (x138) i140 ) (by decide) (by decide) rfl rfl rfl q4_216 q4_213 q4_214 q4_215 q1_7 (by decide +kernel) rfl (by decide) ⟨by show (250 + 8 * y3.toInt.toNat) + 0 ≤ 600000; omega, by show (5300 + 24 * y3.toInt.toNat) + 0 ≤ 7302250; omega⟩ rfl (Nat.le_of_ble_eq_true rfl) dL_law_332 ?_
          rintro _ τ148 ⟨x151, rfl, i149, f150, b152, h154⟩
          have g155 := Rel.dropB rτ f141 f150 h145 h154
          have r156 : Rel τ148 := g155.1
          have q157 := g155.2
          show MW p l e _ s m _ below meth c _ 4 G (250 + 8 * y3.toInt.toNat) (5300 + 24 * y3.toInt.toNat) 335 [some (.ref b), some (.ref (G.1 0 0)), some (.ref (G.1 22 0)), some (.int y3)] [.int x151, .int x142] τ148
          refine m_icmp_eq (tgt := 1028) C dL_law_335 (by decide) (fun c158 => ?_) (fun c158 => ?_)
          · have f159 : x142.toInt = x151.toInt := by
              have q : _ := c158
              simp only [ti_nle, ti_nlt, ti_le, ti_lt, ti_eq, ti_ne, Classical.not_not] at q
              omega
            obtain ⟨x160, ex160⟩ : ∃ y : Int32, y = y3 + 6 := ⟨_, rfl⟩
            have tx160 : x160.toInt = y3.toInt + 6 := by rw [ex160, ti_addv b8 kc_6 (by decide), kt_6]
            have b161 : IV x160 6 3072 := by rw [ex160]; exact iv_add b8 kc_6 (by decide)
            refine m_iinc (v := x160) (L1 := [some (.ref b), some (.ref (G.1 0 0)), some (.ref (G.1 22 0)), some (.int x160)]) C dL_law_1028 rfl (by rw [ex160]; rfl) (by decide) rfl rfl ?_
            refine m_goto (tgt := 18) C dL_law_1031 (by decide) ?_
            refine m_widen (c2 := 250 + 8 * x160.toInt.toNat) (s2 := 5300 + 24 * x160.toInt.toNat) (by omega) (by omega) ?_
            exact ih18 τ148 x160 i149 r156 (iv_wk b161 (by decide)) (by have q := hm18; omega)
          · have f162 : x142.toInt ≠ x151.toInt := by
              have q : _ := c158
              simp only [ti_nle, ti_nlt, ti_le, ti_lt, ti_eq, ti_ne, Classical.not_not] at q
              omega
            exfalso
            omega
        by_cases s163 : x11.toInt = 4
        · refine m_tableIn (tgt := 340) (off := 307) C dL_law_33 (by omega) (by omega) (by rw [s163]; rfl) (by decide) ?_
          have b164 : IV x11 4 4 := ⟨by omega, by omega⟩
          refine m_aload_n C dL_law_340 rfl rfl ?_
          refine m_aload_n C dL_law_341 rfl rfl ?_
          refine m_iload_n C dL_law_342 rfl rfl ?_
          refine m_iconst (v := 1) C dL_law_343 (by decide) ?_
          refine m_iadd C dL_law_344 ?_
          refine m_topi (fun x165 ex165 => ?_)
          have tx165 : x165.toInt = y3.toInt + 1 := by rw [ex165, ti_addv b8 kc_1 (by decide), kt_1]
          have b166 : IV x165 1 3067 := by rw [ex165]; exact iv_add b8 kc_1 (by decide)
          refine m_sld C hX hbl hbA ⟨by omega, by omega⟩ dL_law_345 ?_
          refine m_topi (fun x167 ex167 => ?_)
          refine m_i2l C dL_law_346 ?_
          refine m_bipush (v := 32) C dL_law_347 (by decide) ?_
          refine m_lshl C dL_law_349 ?_
          refine m_topl (fun w168 ew168 => ?_)
          refine m_aload_n C dL_law_350 rfl rfl ?_
          refine m_iload_n C dL_law_351 rfl rfl ?_
          refine m_iconst (v := 2) C dL_law_352 (by decide) ?_
          refine m_iadd C dL_law_353 ?_
          refine m_topi (fun x169 ex169 => ?_)
          have tx169 : x169.toInt = y3.toInt + 2 := by rw [ex169, ti_addv b8 kc_2 (by decide), kt_2]
          have b170 : IV x169 2 3068 := by rw [ex169]; exact iv_add b8 kc_2 (by decide)
          refine m_sld C hX hbl hbA ⟨by omega, by omega⟩ dL_law_354 ?_
          refine m_topi (fun x171 ex171 => ?_)
          refine m_i2l C dL_law_355 ?_
          refine m_ldc2 (v := 4294967295) C dL_law_356 q5_222 ?_
          refine m_land C dL_law_359 ?_
          refine m_topl (fun w172 ew172 => ?_)
          refine m_lor C dL_law_360 ?_
          refine m_topl (fun w173 ew173 => ?_)
          refine m_aload_n C dL_law_361 rfl rfl ?_
          refine m_iload_n C dL_law_362 rfl rfl ?_
          refine m_iconst (v := 3) C dL_law_363 (by decide) ?_
          refine m_iadd C dL_law_364 ?_
          refine m_topi (fun x174 ex174 => ?_)
          have tx174 : x174.toInt = y3.toInt + 3 := by rw [ex174, ti_addv b8 kc_3 (by decide), kt_3]
          have b175 : IV x174 3 3069 := by rw [ex174]; exact iv_add b8 kc_3 (by decide)
          refine m_sld C hX hbl hbA ⟨by omega, by omega⟩ dL_law_365 ?_
          refine m_topi (fun x176 ex176 => ?_)
          refine m_callV (n := 2) (ci := 10) (st := []) C (c_X11_feedE l G τ (w173) (x176) iτ ) (by decide) (by decide) rfl rfl rfl q2_42 q2_39 q2_40 q2_41 q1_1 (by decide +kernel) rfl (by decide) ⟨by show (250 + 8 * y3.toInt.toNat) + 0 ≤ 600000; omega, by show (5300 + 24 * y3.toInt.toNat) + 0 ≤ 7302250; omega⟩ rfl (Nat.le_of_ble_eq_true rfl) dL_law_366 ?_
          rintro _ τ177 ⟨x180, rfl, i178, f179, b181, h183⟩
          show MW p l e _ s m _ below meth c _ 4 G (250 + 8 * y3.toInt.toNat) (5300 + 24 * y3.toInt.toNat) 369 [some (.ref b), some (.ref (G.1 0 0)), some (.ref (G.1 22 0)), some (.int y3)] [.int x180] τ177
          refine m_pop C dL_law_369 rfl ?_
          refine m_aload_n C dL_law_370 rfl rfl ?_
          refine m_aload_n C dL_law_371 rfl rfl ?_
          refine m_iload_n C dL_law_372 rfl rfl ?_
          refine m_iconst (v := 1) C dL_law_373 (by decide) ?_
          refine m_iadd C dL_law_374 ?_
          refine m_topi (fun x184 ex184 => ?_)
          have tx184 : x184.toInt = y3.toInt + 1 := by rw [ex184, ti_addv b8 kc_1 (by decide), kt_1]
          have b185 : IV x184 1 3067 := by rw [ex184]; exact iv_add b8 kc_1 (by decide)
          refine m_sld C hX hbl hbA ⟨by omega, by omega⟩ dL_law_375 ?_
          refine m_eqs (w := x167) (by rw [ex167, show x184.toInt.toNat = x165.toInt.toNat by omega]) ?_
          refine m_i2l C dL_law_376 ?_
          refine m_bipush (v := 32) C dL_law_377 (by decide) ?_
          refine m_lshl C dL_law_379 ?_
          refine m_topl (fun w186 ew186 => ?_)
          refine m_aload_n C dL_law_380 rfl rfl ?_
          refine m_iload_n C dL_law_381 rfl rfl ?_
          refine m_iconst (v := 2) C dL_law_382 (by decide) ?_
          refine m_iadd C dL_law_383 ?_
          refine m_topi (fun x187 ex187 => ?_)
          have tx187 : x187.toInt = y3.toInt + 2 := by rw [ex187, ti_addv b8 kc_2 (by decide), kt_2]
          have b188 : IV x187 2 3068 := by rw [ex187]; exact iv_add b8 kc_2 (by decide)
          refine m_sld C hX hbl hbA ⟨by omega, by omega⟩ dL_law_384 ?_
          refine m_eqs (w := x171) (by rw [ex171, show x187.toInt.toNat = x169.toInt.toNat by omega]) ?_
          refine m_i2l C dL_law_385 ?_
          refine m_ldc2 (v := 4294967295) C dL_law_386 q5_222 ?_
          refine m_land C dL_law_389 ?_
          refine m_topl (fun w189 ew189 => ?_)
          refine m_lor C dL_law_390 ?_
          refine m_topl (fun w190 ew190 => ?_)
          refine m_aload_n C dL_law_391 rfl rfl ?_
          refine m_iload_n C dL_law_392 rfl rfl ?_
          refine m_iconst (v := 3) C dL_law_393 (by decide) ?_
          refine m_iadd C dL_law_394 ?_
          refine m_topi (fun x191 ex191 => ?_)
          have tx191 : x191.toInt = y3.toInt + 3 := by rw [ex191, ti_addv b8 kc_3 (by decide), kt_3]
          have b192 : IV x191 3 3069 := by rw [ex191]; exact iv_add b8 kc_3 (by decide)
          refine m_sld C hX hbl hbA ⟨by omega, by omega⟩ dL_law_395 ?_
          refine m_eqs (w := x176) (by rw [ex176, show x191.toInt.toNat = x174.toInt.toNat by omega]) ?_
          refine m_callV (n := 2) (ci := 11) (st := []) C (c_X12_feedE l G τ177 (w190) (x176) i178 ) (by decide) (by decide) rfl rfl rfl q4_220 q4_217 q4_218 q4_219 q1_7 (by decide +kernel) rfl (by decide) ⟨by show (250 + 8 * y3.toInt.toNat) + 0 ≤ 600000; omega, by show (5300 + 24 * y3.toInt.toNat) + 0 ≤ 7302250; omega⟩ rfl (Nat.le_of_ble_eq_true rfl) dL_law_396 ?_
          rintro _ τ193 ⟨x196, rfl, i194, f195, b197, h199⟩
          have g200 := Rel.feedB rτ f179 f195 h183 h199
          have r201 : Rel τ193 := g200.1
          have q202 := g200.2
          show MW p l e _ s m _ below meth c _ 4 G (250 + 8 * y3.toInt.toNat) (5300 + 24 * y3.toInt.toNat) 399 [some (.ref b), some (.ref (G.1 0 0)), some (.ref (G.1 22 0)), some (.int y3)] [.int x196] τ193
          refine m_pop C dL_law_399 rfl ?_
          refine m_goto (tgt := 1028) C dL_law_400 (by decide) ?_
          obtain ⟨x203, ex203⟩ : ∃ y : Int32, y = y3 + 6 := ⟨_, rfl⟩
          have tx203 : x203.toInt = y3.toInt + 6 := by rw [ex203, ti_addv b8 kc_6 (by decide), kt_6]
          have b204 : IV x203 6 3072 := by rw [ex203]; exact iv_add b8 kc_6 (by decide)
          refine m_iinc (v := x203) (L1 := [some (.ref b), some (.ref (G.1 0 0)), some (.ref (G.1 22 0)), some (.int x203)]) C dL_law_1028 rfl (by rw [ex203]; rfl) (by decide) rfl rfl ?_
          refine m_goto (tgt := 18) C dL_law_1031 (by decide) ?_
          refine m_widen (c2 := 250 + 8 * x203.toInt.toNat) (s2 := 5300 + 24 * x203.toInt.toNat) (by omega) (by omega) ?_
          exact ih18 τ193 x203 i194 r201 (iv_wk b204 (by decide)) (by have q := hm18; omega)
        by_cases s205 : x11.toInt = 5
        · refine m_tableIn (tgt := 403) (off := 370) C dL_law_33 (by omega) (by omega) (by rw [s205]; rfl) (by decide) ?_
          have b206 : IV x11 5 5 := ⟨by omega, by omega⟩
          refine m_aload_n C dL_law_403 rfl rfl ?_
          refine m_callV (n := 0) (ci := 10) (st := []) C (c_X11_towerE l G τ  iτ ) (by decide) (by decide) rfl rfl rfl q2_51 q2_48 q2_49 q2_50 q1_1 (by decide +kernel) rfl (by decide) ⟨by show (250 + 8 * y3.toInt.toNat) + 8 ≤ 600000; omega, by show (5300 + 24 * y3.toInt.toNat) + 24 ≤ 7302250; omega⟩ rfl (Nat.le_of_ble_eq_true rfl) dL_law_404 ?_
          rintro _ τ207 ⟨x210, rfl, i208, f209, b211, h213⟩
          show MW p l e _ s m _ below meth c _ 4 G ((250 + 8 * y3.toInt.toNat) + 8) ((5300 + 24 * y3.toInt.toNat) + 24) 407 [some (.ref b), some (.ref (G.1 0 0)), some (.ref (G.1 22 0)), some (.int y3)] [.int x210] τ207
          refine m_pop C dL_law_407 rfl ?_
          refine m_aload_n C dL_law_408 rfl rfl ?_
          refine m_callV (n := 0) (ci := 11) (st := []) C (c_X12_towerE l G τ207  i208 ) (by decide) (by decide) rfl rfl rfl q4_227 q4_224 q4_225 q4_226 q1_7 (by decide +kernel) rfl (by decide) ⟨by show ((250 + 8 * y3.toInt.toNat) + 8) + 0 ≤ 600000; omega, by show ((5300 + 24 * y3.toInt.toNat) + 24) + 0 ≤ 7302250; omega⟩ rfl (Nat.le_of_ble_eq_true rfl) dL_law_409 ?_
          rintro _ τ214 ⟨x217, rfl, i215, f216, b218, h220⟩
          have g221 := Rel.towerB (a2 := 0) (r1 := 0) (r2 := 0) rτ f209 f216 h213 h220
          have r222 : Rel τ214 := g221
          show MW p l e _ s m _ below meth c _ 4 G ((250 + 8 * y3.toInt.toNat) + 8) ((5300 + 24 * y3.toInt.toNat) + 24) 412 [some (.ref b), some (.ref (G.1 0 0)), some (.ref (G.1 22 0)), some (.int y3)] [.int x217] τ214
          refine m_pop C dL_law_412 rfl ?_
          refine m_goto (tgt := 1028) C dL_law_413 (by decide) ?_
          obtain ⟨x223, ex223⟩ : ∃ y : Int32, y = y3 + 6 := ⟨_, rfl⟩
          have tx223 : x223.toInt = y3.toInt + 6 := by rw [ex223, ti_addv b8 kc_6 (by decide), kt_6]
          have b224 : IV x223 6 3072 := by rw [ex223]; exact iv_add b8 kc_6 (by decide)
          refine m_iinc (v := x223) (L1 := [some (.ref b), some (.ref (G.1 0 0)), some (.ref (G.1 22 0)), some (.int x223)]) C dL_law_1028 rfl (by rw [ex223]; rfl) (by decide) rfl rfl ?_
          refine m_goto (tgt := 18) C dL_law_1031 (by decide) ?_
          refine m_widen (c2 := 250 + 8 * x223.toInt.toNat) (s2 := 5300 + 24 * x223.toInt.toNat) (by omega) (by omega) ?_
          exact ih18 τ214 x223 i215 r222 (iv_wk b224 (by decide)) (by have q := hm18; omega)
        by_cases s225 : x11.toInt = 6
        · refine m_tableIn (tgt := 416) (off := 383) C dL_law_33 (by omega) (by omega) (by rw [s225]; rfl) (by decide) ?_
          have b226 : IV x11 6 6 := ⟨by omega, by omega⟩
          refine m_aload_n C dL_law_416 rfl rfl ?_
          refine m_callV (n := 0) (ci := 10) (st := []) C (c_X11_fault l G τ  iτ ) (by decide) (by decide) rfl rfl rfl q3_13 q3_10 q3_11 q3_12 q1_1 (by decide +kernel) rfl (by decide) ⟨by show (250 + 8 * y3.toInt.toNat) + 0 ≤ 600000; omega, by show (5300 + 24 * y3.toInt.toNat) + 0 ≤ 7302250; omega⟩ rfl (Nat.le_of_ble_eq_true rfl) dL_law_417 ?_
          rintro _ τ227 ⟨x230, rfl, i228, f229, b231⟩
          have r234 : Rel τ227 := rτ.call f229 (by decide) (by decide)
          show MW p l e _ s m _ below meth c _ 4 G (250 + 8 * y3.toInt.toNat) (5300 + 24 * y3.toInt.toNat) 420 [some (.ref b), some (.ref (G.1 0 0)), some (.ref (G.1 22 0)), some (.int y3)] [.int x230] τ227
          refine m_pop C dL_law_420 rfl ?_
          refine m_aload_n C dL_law_421 rfl rfl ?_
          refine m_callV (n := 0) (ci := 11) (st := []) C (c_X12_fault l G τ227  i228 ) (by decide) (by decide) rfl rfl rfl q5_42 q5_39 q5_40 q5_41 q1_7 (by decide +kernel) rfl (by decide) ⟨by show (250 + 8 * y3.toInt.toNat) + 0 ≤ 600000; omega, by show (5300 + 24 * y3.toInt.toNat) + 0 ≤ 7302250; omega⟩ rfl (Nat.le_of_ble_eq_true rfl) dL_law_422 ?_
          rintro _ τ235 ⟨x238, rfl, i236, f237, b239⟩
          have r242 : Rel τ235 := r234.call f237 (by decide) (by decide)
          show MW p l e _ s m _ below meth c _ 4 G (250 + 8 * y3.toInt.toNat) (5300 + 24 * y3.toInt.toNat) 425 [some (.ref b), some (.ref (G.1 0 0)), some (.ref (G.1 22 0)), some (.int y3)] [.int x238] τ235
          refine m_pop C dL_law_425 rfl ?_
          refine m_goto (tgt := 1028) C dL_law_426 (by decide) ?_
          obtain ⟨x243, ex243⟩ : ∃ y : Int32, y = y3 + 6 := ⟨_, rfl⟩
          have tx243 : x243.toInt = y3.toInt + 6 := by rw [ex243, ti_addv b8 kc_6 (by decide), kt_6]
          have b244 : IV x243 6 3072 := by rw [ex243]; exact iv_add b8 kc_6 (by decide)
          refine m_iinc (v := x243) (L1 := [some (.ref b), some (.ref (G.1 0 0)), some (.ref (G.1 22 0)), some (.int x243)]) C dL_law_1028 rfl (by rw [ex243]; rfl) (by decide) rfl rfl ?_
          refine m_goto (tgt := 18) C dL_law_1031 (by decide) ?_
          refine m_widen (c2 := 250 + 8 * x243.toInt.toNat) (s2 := 5300 + 24 * x243.toInt.toNat) (by omega) (by omega) ?_
          exact ih18 τ235 x243 i236 r242 (iv_wk b244 (by decide)) (by have q := hm18; omega)
        by_cases s245 : x11.toInt = 7
        · refine m_tableIn (tgt := 429) (off := 396) C dL_law_33 (by omega) (by omega) (by rw [s245]; rfl) (by decide) ?_
          have b246 : IV x11 7 7 := ⟨by omega, by omega⟩
          refine m_aload_n C dL_law_429 rfl rfl ?_
          refine m_aload_n C dL_law_430 rfl rfl ?_
          refine m_iload_n C dL_law_431 rfl rfl ?_
          refine m_iconst (v := 1) C dL_law_432 (by decide) ?_
          refine m_iadd C dL_law_433 ?_
          refine m_topi (fun x247 ex247 => ?_)
          have tx247 : x247.toInt = y3.toInt + 1 := by rw [ex247, ti_addv b8 kc_1 (by decide), kt_1]
          have b248 : IV x247 1 3067 := by rw [ex247]; exact iv_add b8 kc_1 (by decide)
          refine m_sld C hX hbl hbA ⟨by omega, by omega⟩ dL_law_434 ?_
          refine m_topi (fun x249 ex249 => ?_)
          refine m_aload_n C dL_law_435 rfl rfl ?_
          refine m_iload_n C dL_law_436 rfl rfl ?_
          refine m_iconst (v := 2) C dL_law_437 (by decide) ?_
          refine m_iadd C dL_law_438 ?_
          refine m_topi (fun x250 ex250 => ?_)
          have tx250 : x250.toInt = y3.toInt + 2 := by rw [ex250, ti_addv b8 kc_2 (by decide), kt_2]
          have b251 : IV x250 2 3068 := by rw [ex250]; exact iv_add b8 kc_2 (by decide)
          refine m_sld C hX hbl hbA ⟨by omega, by omega⟩ dL_law_439 ?_
          refine m_topi (fun x252 ex252 => ?_)
          refine m_callV (n := 2) (ci := 10) (st := []) C (c_X11_go l G τ (x249) (x252) iτ ) (by decide) (by decide) rfl rfl rfl q3_17 q3_14 q3_15 q3_16 q1_1 (by decide +kernel) rfl (by decide) ⟨by show (250 + 8 * y3.toInt.toNat) + 0 ≤ 600000; omega, by show (5300 + 24 * y3.toInt.toNat) + 0 ≤ 7302250; omega⟩ rfl (Nat.le_of_ble_eq_true rfl) dL_law_440 ?_
          rintro _ τ253 ⟨x256, rfl, i254, f255, b257⟩
          have r260 : Rel τ253 := rτ.call f255 (by decide) (by decide)
          show MW p l e _ s m _ below meth c _ 4 G (250 + 8 * y3.toInt.toNat) (5300 + 24 * y3.toInt.toNat) 443 [some (.ref b), some (.ref (G.1 0 0)), some (.ref (G.1 22 0)), some (.int y3)] [.int x256] τ253
          refine m_pop C dL_law_443 rfl ?_
          refine m_aload_n C dL_law_444 rfl rfl ?_
          refine m_aload_n C dL_law_445 rfl rfl ?_
          refine m_iload_n C dL_law_446 rfl rfl ?_
          refine m_iconst (v := 1) C dL_law_447 (by decide) ?_
          refine m_iadd C dL_law_448 ?_
          refine m_topi (fun x261 ex261 => ?_)
          have tx261 : x261.toInt = y3.toInt + 1 := by rw [ex261, ti_addv b8 kc_1 (by decide), kt_1]
          have b262 : IV x261 1 3067 := by rw [ex261]; exact iv_add b8 kc_1 (by decide)
          refine m_sld C hX hbl hbA ⟨by omega, by omega⟩ dL_law_449 ?_
          refine m_eqs (w := x249) (by rw [ex249, show x261.toInt.toNat = x247.toInt.toNat by omega]) ?_
          refine m_aload_n C dL_law_450 rfl rfl ?_
          refine m_iload_n C dL_law_451 rfl rfl ?_
          refine m_iconst (v := 2) C dL_law_452 (by decide) ?_
          refine m_iadd C dL_law_453 ?_
          refine m_topi (fun x263 ex263 => ?_)
          have tx263 : x263.toInt = y3.toInt + 2 := by rw [ex263, ti_addv b8 kc_2 (by decide), kt_2]
          have b264 : IV x263 2 3068 := by rw [ex263]; exact iv_add b8 kc_2 (by decide)
          refine m_sld C hX hbl hbA ⟨by omega, by omega⟩ dL_law_454 ?_
          refine m_eqs (w := x252) (by rw [ex252, show x263.toInt.toNat = x250.toInt.toNat by omega]) ?_
          refine m_callV (n := 2) (ci := 11) (st := []) C (c_X12_go l G τ253 (x249) (x252) i254 ) (by decide) (by decide) rfl rfl rfl q5_46 q5_43 q5_44 q5_45 q1_7 (by decide +kernel) rfl (by decide) ⟨by show (250 + 8 * y3.toInt.toNat) + 0 ≤ 600000; omega, by show (5300 + 24 * y3.toInt.toNat) + 0 ≤ 7302250; omega⟩ rfl (Nat.le_of_ble_eq_true rfl) dL_law_455 ?_
          rintro _ τ265 ⟨x268, rfl, i266, f267, b269⟩
          have r272 : Rel τ265 := r260.call f267 (by decide) (by decide)
          show MW p l e _ s m _ below meth c _ 4 G (250 + 8 * y3.toInt.toNat) (5300 + 24 * y3.toInt.toNat) 458 [some (.ref b), some (.ref (G.1 0 0)), some (.ref (G.1 22 0)), some (.int y3)] [.int x268] τ265
          refine m_pop C dL_law_458 rfl ?_
          refine m_goto (tgt := 1028) C dL_law_459 (by decide) ?_
          obtain ⟨x273, ex273⟩ : ∃ y : Int32, y = y3 + 6 := ⟨_, rfl⟩
          have tx273 : x273.toInt = y3.toInt + 6 := by rw [ex273, ti_addv b8 kc_6 (by decide), kt_6]
          have b274 : IV x273 6 3072 := by rw [ex273]; exact iv_add b8 kc_6 (by decide)
          refine m_iinc (v := x273) (L1 := [some (.ref b), some (.ref (G.1 0 0)), some (.ref (G.1 22 0)), some (.int x273)]) C dL_law_1028 rfl (by rw [ex273]; rfl) (by decide) rfl rfl ?_
          refine m_goto (tgt := 18) C dL_law_1031 (by decide) ?_
          refine m_widen (c2 := 250 + 8 * x273.toInt.toNat) (s2 := 5300 + 24 * x273.toInt.toNat) (by omega) (by omega) ?_
          exact ih18 τ265 x273 i266 r272 (iv_wk b274 (by decide)) (by have q := hm18; omega)
        by_cases s275 : x11.toInt = 8
        · refine m_tableIn (tgt := 462) (off := 429) C dL_law_33 (by omega) (by omega) (by rw [s275]; rfl) (by decide) ?_
          have b276 : IV x11 8 8 := ⟨by omega, by omega⟩
          refine m_aload_n C dL_law_462 rfl rfl ?_
          refine m_aload_n C dL_law_463 rfl rfl ?_
          refine m_iload_n C dL_law_464 rfl rfl ?_
          refine m_iconst (v := 1) C dL_law_465 (by decide) ?_
          refine m_iadd C dL_law_466 ?_
          refine m_topi (fun x277 ex277 => ?_)
          have tx277 : x277.toInt = y3.toInt + 1 := by rw [ex277, ti_addv b8 kc_1 (by decide), kt_1]
          have b278 : IV x277 1 3067 := by rw [ex277]; exact iv_add b8 kc_1 (by decide)
          refine m_sld C hX hbl hbA ⟨by omega, by omega⟩ dL_law_467 ?_
          refine m_topi (fun x279 ex279 => ?_)
          refine m_aload_n C dL_law_468 rfl rfl ?_
          refine m_iload_n C dL_law_469 rfl rfl ?_
          refine m_iconst (v := 2) C dL_law_470 (by decide) ?_
          refine m_iadd C dL_law_471 ?_
          refine m_topi (fun x280 ex280 => ?_)
          have tx280 : x280.toInt = y3.toInt + 2 := by rw [ex280, ti_addv b8 kc_2 (by decide), kt_2]
          have b281 : IV x280 2 3068 := by rw [ex280]; exact iv_add b8 kc_2 (by decide)
          refine m_sld C hX hbl hbA ⟨by omega, by omega⟩ dL_law_472 ?_
          refine m_topi (fun x282 ex282 => ?_)
          refine m_callV (n := 2) (ci := 10) (st := []) C (c_X11_hang l G τ (x279) (x282) iτ ) (by decide) (by decide) rfl rfl rfl q3_29 q3_26 q3_27 q3_28 q1_1 (by decide +kernel) rfl (by decide) ⟨by show (250 + 8 * y3.toInt.toNat) + 0 ≤ 600000; omega, by show (5300 + 24 * y3.toInt.toNat) + 0 ≤ 7302250; omega⟩ rfl (Nat.le_of_ble_eq_true rfl) dL_law_473 ?_
          rintro _ τ283 ⟨x286, rfl, i284, f285, b287⟩
          have r290 : Rel τ283 := rτ.call f285 (by decide) (by decide)
          show MW p l e _ s m _ below meth c _ 4 G (250 + 8 * y3.toInt.toNat) (5300 + 24 * y3.toInt.toNat) 476 [some (.ref b), some (.ref (G.1 0 0)), some (.ref (G.1 22 0)), some (.int y3)] [.int x286] τ283
          refine m_pop C dL_law_476 rfl ?_
          refine m_aload_n C dL_law_477 rfl rfl ?_
          refine m_aload_n C dL_law_478 rfl rfl ?_
          refine m_iload_n C dL_law_479 rfl rfl ?_
          refine m_iconst (v := 1) C dL_law_480 (by decide) ?_
          refine m_iadd C dL_law_481 ?_
          refine m_topi (fun x291 ex291 => ?_)
          have tx291 : x291.toInt = y3.toInt + 1 := by rw [ex291, ti_addv b8 kc_1 (by decide), kt_1]
          have b292 : IV x291 1 3067 := by rw [ex291]; exact iv_add b8 kc_1 (by decide)
          refine m_sld C hX hbl hbA ⟨by omega, by omega⟩ dL_law_482 ?_
          refine m_eqs (w := x279) (by rw [ex279, show x291.toInt.toNat = x277.toInt.toNat by omega]) ?_
          refine m_aload_n C dL_law_483 rfl rfl ?_
          refine m_iload_n C dL_law_484 rfl rfl ?_
          refine m_iconst (v := 2) C dL_law_485 (by decide) ?_
          refine m_iadd C dL_law_486 ?_
          refine m_topi (fun x293 ex293 => ?_)
          have tx293 : x293.toInt = y3.toInt + 2 := by rw [ex293, ti_addv b8 kc_2 (by decide), kt_2]
          have b294 : IV x293 2 3068 := by rw [ex293]; exact iv_add b8 kc_2 (by decide)
          refine m_sld C hX hbl hbA ⟨by omega, by omega⟩ dL_law_487 ?_
          refine m_eqs (w := x282) (by rw [ex282, show x293.toInt.toNat = x280.toInt.toNat by omega]) ?_
          refine m_callV (n := 2) (ci := 11) (st := []) C (c_X12_hang l G τ283 (x279) (x282) i284 ) (by decide) (by decide) rfl rfl rfl q5_58 q5_55 q5_56 q5_57 q1_7 (by decide +kernel) rfl (by decide) ⟨by show (250 + 8 * y3.toInt.toNat) + 0 ≤ 600000; omega, by show (5300 + 24 * y3.toInt.toNat) + 0 ≤ 7302250; omega⟩ rfl (Nat.le_of_ble_eq_true rfl) dL_law_488 ?_
          rintro _ τ295 ⟨x298, rfl, i296, f297, b299⟩
          have r302 : Rel τ295 := r290.call f297 (by decide) (by decide)
          show MW p l e _ s m _ below meth c _ 4 G (250 + 8 * y3.toInt.toNat) (5300 + 24 * y3.toInt.toNat) 491 [some (.ref b), some (.ref (G.1 0 0)), some (.ref (G.1 22 0)), some (.int y3)] [.int x298] τ295
          refine m_pop C dL_law_491 rfl ?_
          refine m_goto (tgt := 1028) C dL_law_492 (by decide) ?_
          obtain ⟨x303, ex303⟩ : ∃ y : Int32, y = y3 + 6 := ⟨_, rfl⟩
          have tx303 : x303.toInt = y3.toInt + 6 := by rw [ex303, ti_addv b8 kc_6 (by decide), kt_6]
          have b304 : IV x303 6 3072 := by rw [ex303]; exact iv_add b8 kc_6 (by decide)
          refine m_iinc (v := x303) (L1 := [some (.ref b), some (.ref (G.1 0 0)), some (.ref (G.1 22 0)), some (.int x303)]) C dL_law_1028 rfl (by rw [ex303]; rfl) (by decide) rfl rfl ?_
          refine m_goto (tgt := 18) C dL_law_1031 (by decide) ?_
          refine m_widen (c2 := 250 + 8 * x303.toInt.toNat) (s2 := 5300 + 24 * x303.toInt.toNat) (by omega) (by omega) ?_
          exact ih18 τ295 x303 i296 r302 (iv_wk b304 (by decide)) (by have q := hm18; omega)
        by_cases s305 : x11.toInt = 9
        · refine m_tableIn (tgt := 495) (off := 462) C dL_law_33 (by omega) (by omega) (by rw [s305]; rfl) (by decide) ?_
          have b306 : IV x11 9 9 := ⟨by omega, by omega⟩
          refine m_aload_n C dL_law_495 rfl rfl ?_
          refine m_aload_n C dL_law_496 rfl rfl ?_
          refine m_iload_n C dL_law_497 rfl rfl ?_
          refine m_iconst (v := 1) C dL_law_498 (by decide) ?_
          refine m_iadd C dL_law_499 ?_
          refine m_topi (fun x307 ex307 => ?_)
          have tx307 : x307.toInt = y3.toInt + 1 := by rw [ex307, ti_addv b8 kc_1 (by decide), kt_1]
          have b308 : IV x307 1 3067 := by rw [ex307]; exact iv_add b8 kc_1 (by decide)
          refine m_sld C hX hbl hbA ⟨by omega, by omega⟩ dL_law_500 ?_
          refine m_topi (fun x309 ex309 => ?_)
          refine m_callV (n := 1) (ci := 10) (st := []) C (c_X11_halves l G τ (x309) iτ ) (by decide) (by decide) rfl rfl rfl q3_37 q3_34 q3_35 q3_36 q1_1 (by decide +kernel) rfl (by decide) ⟨by show (250 + 8 * y3.toInt.toNat) + 0 ≤ 600000; omega, by show (5300 + 24 * y3.toInt.toNat) + 0 ≤ 7302250; omega⟩ rfl (Nat.le_of_ble_eq_true rfl) dL_law_501 ?_
          rintro _ τ310 ⟨x313, rfl, i311, f312, b314⟩
          have r317 : Rel τ310 := rτ.call f312 (by decide) (by decide)
          show MW p l e _ s m _ below meth c _ 4 G (250 + 8 * y3.toInt.toNat) (5300 + 24 * y3.toInt.toNat) 504 [some (.ref b), some (.ref (G.1 0 0)), some (.ref (G.1 22 0)), some (.int y3)] [.int x313] τ310
          refine m_pop C dL_law_504 rfl ?_
          refine m_aload_n C dL_law_505 rfl rfl ?_
          refine m_aload_n C dL_law_506 rfl rfl ?_
          refine m_iload_n C dL_law_507 rfl rfl ?_
          refine m_iconst (v := 1) C dL_law_508 (by decide) ?_
          refine m_iadd C dL_law_509 ?_
          refine m_topi (fun x318 ex318 => ?_)
          have tx318 : x318.toInt = y3.toInt + 1 := by rw [ex318, ti_addv b8 kc_1 (by decide), kt_1]
          have b319 : IV x318 1 3067 := by rw [ex318]; exact iv_add b8 kc_1 (by decide)
          refine m_sld C hX hbl hbA ⟨by omega, by omega⟩ dL_law_510 ?_
          refine m_eqs (w := x309) (by rw [ex309, show x318.toInt.toNat = x307.toInt.toNat by omega]) ?_
          refine m_callV (n := 1) (ci := 11) (st := []) C (c_X12_halves l G τ310 (x309) i311 ) (by decide) (by decide) rfl rfl rfl q5_63 q5_60 q5_61 q5_62 q1_7 (by decide +kernel) rfl (by decide) ⟨by show (250 + 8 * y3.toInt.toNat) + 0 ≤ 600000; omega, by show (5300 + 24 * y3.toInt.toNat) + 0 ≤ 7302250; omega⟩ rfl (Nat.le_of_ble_eq_true rfl) dL_law_511 ?_
          rintro _ τ320 ⟨x323, rfl, i321, f322, b324⟩
          have r327 : Rel τ320 := r317.call f322 (by decide) (by decide)
          show MW p l e _ s m _ below meth c _ 4 G (250 + 8 * y3.toInt.toNat) (5300 + 24 * y3.toInt.toNat) 514 [some (.ref b), some (.ref (G.1 0 0)), some (.ref (G.1 22 0)), some (.int y3)] [.int x323] τ320
          refine m_pop C dL_law_514 rfl ?_
          refine m_goto (tgt := 1028) C dL_law_515 (by decide) ?_
          obtain ⟨x328, ex328⟩ : ∃ y : Int32, y = y3 + 6 := ⟨_, rfl⟩
          have tx328 : x328.toInt = y3.toInt + 6 := by rw [ex328, ti_addv b8 kc_6 (by decide), kt_6]
          have b329 : IV x328 6 3072 := by rw [ex328]; exact iv_add b8 kc_6 (by decide)
          refine m_iinc (v := x328) (L1 := [some (.ref b), some (.ref (G.1 0 0)), some (.ref (G.1 22 0)), some (.int x328)]) C dL_law_1028 rfl (by rw [ex328]; rfl) (by decide) rfl rfl ?_
          refine m_goto (tgt := 18) C dL_law_1031 (by decide) ?_
          refine m_widen (c2 := 250 + 8 * x328.toInt.toNat) (s2 := 5300 + 24 * x328.toInt.toNat) (by omega) (by omega) ?_
          exact ih18 τ320 x328 i321 r327 (iv_wk b329 (by decide)) (by have q := hm18; omega)
        by_cases s330 : x11.toInt = 10
        · refine m_tableIn (tgt := 518) (off := 485) C dL_law_33 (by omega) (by omega) (by rw [s330]; rfl) (by decide) ?_
          have b331 : IV x11 10 10 := ⟨by omega, by omega⟩
          refine m_aload_n C dL_law_518 rfl rfl ?_
          refine m_callV (n := 0) (ci := 10) (st := []) C (c_X11_year l G τ  iτ ) (by decide) (by decide) rfl rfl rfl q3_97 q3_94 q3_95 q3_96 q1_1 (by decide +kernel) rfl (by decide) ⟨by show (250 + 8 * y3.toInt.toNat) + 0 ≤ 600000; omega, by show (5300 + 24 * y3.toInt.toNat) + 0 ≤ 7302250; omega⟩ rfl (Nat.le_of_ble_eq_true rfl) dL_law_519 ?_
          rintro _ τ332 ⟨x335, rfl, i333, f334, b336⟩
          have r339 : Rel τ332 := rτ.call f334 (by decide) (by decide)
          show MW p l e _ s m _ below meth c _ 4 G (250 + 8 * y3.toInt.toNat) (5300 + 24 * y3.toInt.toNat) 522 [some (.ref b), some (.ref (G.1 0 0)), some (.ref (G.1 22 0)), some (.int y3)] [.int x335] τ332
          refine m_pop C dL_law_522 rfl ?_
          refine m_aload_n C dL_law_523 rfl rfl ?_
          refine m_callV (n := 0) (ci := 11) (st := []) C (c_X12_year l G τ332  i333 ) (by decide) (by decide) rfl rfl rfl q5_103 q5_100 q5_101 q5_102 q1_7 (by decide +kernel) rfl (by decide) ⟨by show (250 + 8 * y3.toInt.toNat) + 0 ≤ 600000; omega, by show (5300 + 24 * y3.toInt.toNat) + 0 ≤ 7302250; omega⟩ rfl (Nat.le_of_ble_eq_true rfl) dL_law_524 ?_
          rintro _ τ340 ⟨x343, rfl, i341, f342, b344⟩
          have r347 : Rel τ340 := r339.call f342 (by decide) (by decide)
          show MW p l e _ s m _ below meth c _ 4 G (250 + 8 * y3.toInt.toNat) (5300 + 24 * y3.toInt.toNat) 527 [some (.ref b), some (.ref (G.1 0 0)), some (.ref (G.1 22 0)), some (.int y3)] [.int x343] τ340
          refine m_pop C dL_law_527 rfl ?_
          refine m_goto (tgt := 1028) C dL_law_528 (by decide) ?_
          obtain ⟨x348, ex348⟩ : ∃ y : Int32, y = y3 + 6 := ⟨_, rfl⟩
          have tx348 : x348.toInt = y3.toInt + 6 := by rw [ex348, ti_addv b8 kc_6 (by decide), kt_6]
          have b349 : IV x348 6 3072 := by rw [ex348]; exact iv_add b8 kc_6 (by decide)
          refine m_iinc (v := x348) (L1 := [some (.ref b), some (.ref (G.1 0 0)), some (.ref (G.1 22 0)), some (.int x348)]) C dL_law_1028 rfl (by rw [ex348]; rfl) (by decide) rfl rfl ?_
          refine m_goto (tgt := 18) C dL_law_1031 (by decide) ?_
          refine m_widen (c2 := 250 + 8 * x348.toInt.toNat) (s2 := 5300 + 24 * x348.toInt.toNat) (by omega) (by omega) ?_
          exact ih18 τ340 x348 i341 r347 (iv_wk b349 (by decide)) (by have q := hm18; omega)
        by_cases s350 : x11.toInt = 11
        · refine m_tableIn (tgt := 531) (off := 498) C dL_law_33 (by omega) (by omega) (by rw [s350]; rfl) (by decide) ?_
          have b351 : IV x11 11 11 := ⟨by omega, by omega⟩
          refine m_aload_n C dL_law_531 rfl rfl ?_
          refine m_callV (n := 0) (ci := 10) (st := []) C (c_X11_undo l G τ  iτ ) (by decide) (by decide) rfl rfl rfl q3_106 q3_103 q3_104 q3_105 q1_1 (by decide +kernel) rfl (by decide) ⟨by show (250 + 8 * y3.toInt.toNat) + 0 ≤ 600000; omega, by show (5300 + 24 * y3.toInt.toNat) + 0 ≤ 7302250; omega⟩ rfl (Nat.le_of_ble_eq_true rfl) dL_law_532 ?_
          rintro _ τ352 ⟨x355, rfl, i353, f354, b356⟩
          have r359 : Rel τ352 := rτ.call f354 (by decide) (by decide)
          show MW p l e _ s m _ below meth c _ 4 G (250 + 8 * y3.toInt.toNat) (5300 + 24 * y3.toInt.toNat) 535 [some (.ref b), some (.ref (G.1 0 0)), some (.ref (G.1 22 0)), some (.int y3)] [.int x355] τ352
          refine m_pop C dL_law_535 rfl ?_
          refine m_aload_n C dL_law_536 rfl rfl ?_
          refine m_callV (n := 0) (ci := 11) (st := []) C (c_X12_undo l G τ352  i353 ) (by decide) (by decide) rfl rfl rfl q5_111 q5_108 q5_109 q5_110 q1_7 (by decide +kernel) rfl (by decide) ⟨by show (250 + 8 * y3.toInt.toNat) + 0 ≤ 600000; omega, by show (5300 + 24 * y3.toInt.toNat) + 0 ≤ 7302250; omega⟩ rfl (Nat.le_of_ble_eq_true rfl) dL_law_537 ?_
          rintro _ τ360 ⟨x363, rfl, i361, f362, b364⟩
          have r367 : Rel τ360 := r359.call f362 (by decide) (by decide)
          show MW p l e _ s m _ below meth c _ 4 G (250 + 8 * y3.toInt.toNat) (5300 + 24 * y3.toInt.toNat) 540 [some (.ref b), some (.ref (G.1 0 0)), some (.ref (G.1 22 0)), some (.int y3)] [.int x363] τ360
          refine m_pop C dL_law_540 rfl ?_
          refine m_goto (tgt := 1028) C dL_law_541 (by decide) ?_
          obtain ⟨x368, ex368⟩ : ∃ y : Int32, y = y3 + 6 := ⟨_, rfl⟩
          have tx368 : x368.toInt = y3.toInt + 6 := by rw [ex368, ti_addv b8 kc_6 (by decide), kt_6]
          have b369 : IV x368 6 3072 := by rw [ex368]; exact iv_add b8 kc_6 (by decide)
          refine m_iinc (v := x368) (L1 := [some (.ref b), some (.ref (G.1 0 0)), some (.ref (G.1 22 0)), some (.int x368)]) C dL_law_1028 rfl (by rw [ex368]; rfl) (by decide) rfl rfl ?_
          refine m_goto (tgt := 18) C dL_law_1031 (by decide) ?_
          refine m_widen (c2 := 250 + 8 * x368.toInt.toNat) (s2 := 5300 + 24 * x368.toInt.toNat) (by omega) (by omega) ?_
          exact ih18 τ360 x368 i361 r367 (iv_wk b369 (by decide)) (by have q := hm18; omega)
        by_cases s370 : x11.toInt = 12
        · refine m_tableIn (tgt := 544) (off := 511) C dL_law_33 (by omega) (by omega) (by rw [s370]; rfl) (by decide) ?_
          have b371 : IV x11 12 12 := ⟨by omega, by omega⟩
          refine m_aload_n C dL_law_544 rfl rfl ?_
          refine m_aload_n C dL_law_545 rfl rfl ?_
          refine m_iload_n C dL_law_546 rfl rfl ?_
          refine m_iconst (v := 1) C dL_law_547 (by decide) ?_
          refine m_iadd C dL_law_548 ?_
          refine m_topi (fun x372 ex372 => ?_)
          have tx372 : x372.toInt = y3.toInt + 1 := by rw [ex372, ti_addv b8 kc_1 (by decide), kt_1]
          have b373 : IV x372 1 3067 := by rw [ex372]; exact iv_add b8 kc_1 (by decide)
          refine m_sld C hX hbl hbA ⟨by omega, by omega⟩ dL_law_549 ?_
          refine m_topi (fun x374 ex374 => ?_)
          refine m_aload_n C dL_law_550 rfl rfl ?_
          refine m_iload_n C dL_law_551 rfl rfl ?_
          refine m_iconst (v := 2) C dL_law_552 (by decide) ?_
          refine m_iadd C dL_law_553 ?_
          refine m_topi (fun x375 ex375 => ?_)
          have tx375 : x375.toInt = y3.toInt + 2 := by rw [ex375, ti_addv b8 kc_2 (by decide), kt_2]
          have b376 : IV x375 2 3068 := by rw [ex375]; exact iv_add b8 kc_2 (by decide)
          refine m_sld C hX hbl hbA ⟨by omega, by omega⟩ dL_law_554 ?_
          refine m_topi (fun x377 ex377 => ?_)
          refine m_callV (n := 2) (ci := 10) (st := []) C (c_X11_person l G τ (x374) (x377) iτ ) (by decide) (by decide) rfl rfl rfl q3_110 q3_107 q3_108 q3_109 q1_1 (by decide +kernel) rfl (by decide) ⟨by show (250 + 8 * y3.toInt.toNat) + 0 ≤ 600000; omega, by show (5300 + 24 * y3.toInt.toNat) + 0 ≤ 7302250; omega⟩ rfl (Nat.le_of_ble_eq_true rfl) dL_law_555 ?_
          rintro _ τ378 ⟨x381, rfl, i379, f380, b382⟩
          have r385 : Rel τ378 := rτ.call f380 (by decide) (by decide)
          show MW p l e _ s m _ below meth c _ 4 G (250 + 8 * y3.toInt.toNat) (5300 + 24 * y3.toInt.toNat) 558 [some (.ref b), some (.ref (G.1 0 0)), some (.ref (G.1 22 0)), some (.int y3)] [.int x381] τ378
          refine m_pop C dL_law_558 rfl ?_
          refine m_aload_n C dL_law_559 rfl rfl ?_
          refine m_aload_n C dL_law_560 rfl rfl ?_
          refine m_iload_n C dL_law_561 rfl rfl ?_
          refine m_iconst (v := 1) C dL_law_562 (by decide) ?_
          refine m_iadd C dL_law_563 ?_
          refine m_topi (fun x386 ex386 => ?_)
          have tx386 : x386.toInt = y3.toInt + 1 := by rw [ex386, ti_addv b8 kc_1 (by decide), kt_1]
          have b387 : IV x386 1 3067 := by rw [ex386]; exact iv_add b8 kc_1 (by decide)
          refine m_sld C hX hbl hbA ⟨by omega, by omega⟩ dL_law_564 ?_
          refine m_eqs (w := x374) (by rw [ex374, show x386.toInt.toNat = x372.toInt.toNat by omega]) ?_
          refine m_aload_n C dL_law_565 rfl rfl ?_
          refine m_iload_n C dL_law_566 rfl rfl ?_
          refine m_iconst (v := 2) C dL_law_567 (by decide) ?_
          refine m_iadd C dL_law_568 ?_
          refine m_topi (fun x388 ex388 => ?_)
          have tx388 : x388.toInt = y3.toInt + 2 := by rw [ex388, ti_addv b8 kc_2 (by decide), kt_2]
          have b389 : IV x388 2 3068 := by rw [ex388]; exact iv_add b8 kc_2 (by decide)
          refine m_sld C hX hbl hbA ⟨by omega, by omega⟩ dL_law_569 ?_
          refine m_eqs (w := x377) (by rw [ex377, show x388.toInt.toNat = x375.toInt.toNat by omega]) ?_
          refine m_callV (n := 2) (ci := 11) (st := []) C (c_X12_person l G τ378 (x374) (x377) i379 ) (by decide) (by decide) rfl rfl rfl q5_115 q5_112 q5_113 q5_114 q1_7 (by decide +kernel) rfl (by decide) ⟨by show (250 + 8 * y3.toInt.toNat) + 0 ≤ 600000; omega, by show (5300 + 24 * y3.toInt.toNat) + 0 ≤ 7302250; omega⟩ rfl (Nat.le_of_ble_eq_true rfl) dL_law_570 ?_
          rintro _ τ390 ⟨x393, rfl, i391, f392, b394⟩
          have r397 : Rel τ390 := r385.call f392 (by decide) (by decide)
          show MW p l e _ s m _ below meth c _ 4 G (250 + 8 * y3.toInt.toNat) (5300 + 24 * y3.toInt.toNat) 573 [some (.ref b), some (.ref (G.1 0 0)), some (.ref (G.1 22 0)), some (.int y3)] [.int x393] τ390
          refine m_pop C dL_law_573 rfl ?_
          refine m_goto (tgt := 1028) C dL_law_574 (by decide) ?_
          obtain ⟨x398, ex398⟩ : ∃ y : Int32, y = y3 + 6 := ⟨_, rfl⟩
          have tx398 : x398.toInt = y3.toInt + 6 := by rw [ex398, ti_addv b8 kc_6 (by decide), kt_6]
          have b399 : IV x398 6 3072 := by rw [ex398]; exact iv_add b8 kc_6 (by decide)
          refine m_iinc (v := x398) (L1 := [some (.ref b), some (.ref (G.1 0 0)), some (.ref (G.1 22 0)), some (.int x398)]) C dL_law_1028 rfl (by rw [ex398]; rfl) (by decide) rfl rfl ?_
          refine m_goto (tgt := 18) C dL_law_1031 (by decide) ?_
          refine m_widen (c2 := 250 + 8 * x398.toInt.toNat) (s2 := 5300 + 24 * x398.toInt.toNat) (by omega) (by omega) ?_
          exact ih18 τ390 x398 i391 r397 (iv_wk b399 (by decide)) (by have q := hm18; omega)
        by_cases s400 : x11.toInt = 13
        · refine m_tableIn (tgt := 577) (off := 544) C dL_law_33 (by omega) (by omega) (by rw [s400]; rfl) (by decide) ?_
          have b401 : IV x11 13 13 := ⟨by omega, by omega⟩
          refine m_aload_n C dL_law_577 rfl rfl ?_
          refine m_aload_n C dL_law_578 rfl rfl ?_
          refine m_iload_n C dL_law_579 rfl rfl ?_
          refine m_iconst (v := 1) C dL_law_580 (by decide) ?_
          refine m_iadd C dL_law_581 ?_
          refine m_topi (fun x402 ex402 => ?_)
          have tx402 : x402.toInt = y3.toInt + 1 := by rw [ex402, ti_addv b8 kc_1 (by decide), kt_1]
          have b403 : IV x402 1 3067 := by rw [ex402]; exact iv_add b8 kc_1 (by decide)
          refine m_sld C hX hbl hbA ⟨by omega, by omega⟩ dL_law_582 ?_
          refine m_topi (fun x404 ex404 => ?_)
          refine m_callV (n := 1) (ci := 10) (st := []) C (c_X11_lean l G τ (x404) iτ ) (by decide) (by decide) rfl rfl rfl q3_120 q3_117 q3_118 q3_119 q1_1 (by decide +kernel) rfl (by decide) ⟨by show (250 + 8 * y3.toInt.toNat) + 0 ≤ 600000; omega, by show (5300 + 24 * y3.toInt.toNat) + 0 ≤ 7302250; omega⟩ rfl (Nat.le_of_ble_eq_true rfl) dL_law_583 ?_
          rintro _ τ405 ⟨x408, rfl, i406, f407, b409⟩
          have r412 : Rel τ405 := rτ.call f407 (by decide) (by decide)
          show MW p l e _ s m _ below meth c _ 4 G (250 + 8 * y3.toInt.toNat) (5300 + 24 * y3.toInt.toNat) 586 [some (.ref b), some (.ref (G.1 0 0)), some (.ref (G.1 22 0)), some (.int y3)] [.int x408] τ405
          refine m_pop C dL_law_586 rfl ?_
          refine m_aload_n C dL_law_587 rfl rfl ?_
          refine m_aload_n C dL_law_588 rfl rfl ?_
          refine m_iload_n C dL_law_589 rfl rfl ?_
          refine m_iconst (v := 1) C dL_law_590 (by decide) ?_
          refine m_iadd C dL_law_591 ?_
          refine m_topi (fun x413 ex413 => ?_)
          have tx413 : x413.toInt = y3.toInt + 1 := by rw [ex413, ti_addv b8 kc_1 (by decide), kt_1]
          have b414 : IV x413 1 3067 := by rw [ex413]; exact iv_add b8 kc_1 (by decide)
          refine m_sld C hX hbl hbA ⟨by omega, by omega⟩ dL_law_592 ?_
          refine m_eqs (w := x404) (by rw [ex404, show x413.toInt.toNat = x402.toInt.toNat by omega]) ?_
          refine m_callV (n := 1) (ci := 11) (st := []) C (c_X12_lean l G τ405 (x404) i406 ) (by decide) (by decide) rfl rfl rfl q5_120 q5_117 q5_118 q5_119 q1_7 (by decide +kernel) rfl (by decide) ⟨by show (250 + 8 * y3.toInt.toNat) + 0 ≤ 600000; omega, by show (5300 + 24 * y3.toInt.toNat) + 0 ≤ 7302250; omega⟩ rfl (Nat.le_of_ble_eq_true rfl) dL_law_593 ?_
          rintro _ τ415 ⟨x418, rfl, i416, f417, b419⟩
          have r422 : Rel τ415 := r412.call f417 (by decide) (by decide)
          show MW p l e _ s m _ below meth c _ 4 G (250 + 8 * y3.toInt.toNat) (5300 + 24 * y3.toInt.toNat) 596 [some (.ref b), some (.ref (G.1 0 0)), some (.ref (G.1 22 0)), some (.int y3)] [.int x418] τ415
          refine m_pop C dL_law_596 rfl ?_
          refine m_goto (tgt := 1028) C dL_law_597 (by decide) ?_
          obtain ⟨x423, ex423⟩ : ∃ y : Int32, y = y3 + 6 := ⟨_, rfl⟩
          have tx423 : x423.toInt = y3.toInt + 6 := by rw [ex423, ti_addv b8 kc_6 (by decide), kt_6]
          have b424 : IV x423 6 3072 := by rw [ex423]; exact iv_add b8 kc_6 (by decide)
          refine m_iinc (v := x423) (L1 := [some (.ref b), some (.ref (G.1 0 0)), some (.ref (G.1 22 0)), some (.int x423)]) C dL_law_1028 rfl (by rw [ex423]; rfl) (by decide) rfl rfl ?_
          refine m_goto (tgt := 18) C dL_law_1031 (by decide) ?_
          refine m_widen (c2 := 250 + 8 * x423.toInt.toNat) (s2 := 5300 + 24 * x423.toInt.toNat) (by omega) (by omega) ?_
          exact ih18 τ415 x423 i416 r422 (iv_wk b424 (by decide)) (by have q := hm18; omega)
        by_cases s425 : x11.toInt = 14
        · refine m_tableIn (tgt := 600) (off := 567) C dL_law_33 (by omega) (by omega) (by rw [s425]; rfl) (by decide) ?_
          have b426 : IV x11 14 14 := ⟨by omega, by omega⟩
          refine m_aload_n C dL_law_600 rfl rfl ?_
          refine m_aload_n C dL_law_601 rfl rfl ?_
          refine m_iload_n C dL_law_602 rfl rfl ?_
          refine m_iconst (v := 1) C dL_law_603 (by decide) ?_
          refine m_iadd C dL_law_604 ?_
          refine m_topi (fun x427 ex427 => ?_)
          have tx427 : x427.toInt = y3.toInt + 1 := by rw [ex427, ti_addv b8 kc_1 (by decide), kt_1]
          have b428 : IV x427 1 3067 := by rw [ex427]; exact iv_add b8 kc_1 (by decide)
          refine m_sld C hX hbl hbA ⟨by omega, by omega⟩ dL_law_605 ?_
          refine m_topi (fun x429 ex429 => ?_)
          refine m_callV (n := 1) (ci := 10) (st := []) C (c_X11_worst l G τ (x429) iτ ) (by decide) (by decide) rfl rfl rfl q3_125 q3_122 q3_123 q3_124 q1_1 (by decide +kernel) rfl (by decide) ⟨by show (250 + 8 * y3.toInt.toNat) + 0 ≤ 600000; omega, by show (5300 + 24 * y3.toInt.toNat) + 0 ≤ 7302250; omega⟩ rfl (Nat.le_of_ble_eq_true rfl) dL_law_606 ?_
          rintro _ τ430 ⟨x433, rfl, i431, f432, b434⟩
          have r437 : Rel τ430 := rτ.call f432 (by decide) (by decide)
          show MW p l e _ s m _ below meth c _ 4 G (250 + 8 * y3.toInt.toNat) (5300 + 24 * y3.toInt.toNat) 609 [some (.ref b), some (.ref (G.1 0 0)), some (.ref (G.1 22 0)), some (.int y3)] [.int x433] τ430
          refine m_pop C dL_law_609 rfl ?_
          refine m_aload_n C dL_law_610 rfl rfl ?_
          refine m_aload_n C dL_law_611 rfl rfl ?_
          refine m_iload_n C dL_law_612 rfl rfl ?_
          refine m_iconst (v := 1) C dL_law_613 (by decide) ?_
          refine m_iadd C dL_law_614 ?_
          refine m_topi (fun x438 ex438 => ?_)
          have tx438 : x438.toInt = y3.toInt + 1 := by rw [ex438, ti_addv b8 kc_1 (by decide), kt_1]
          have b439 : IV x438 1 3067 := by rw [ex438]; exact iv_add b8 kc_1 (by decide)
          refine m_sld C hX hbl hbA ⟨by omega, by omega⟩ dL_law_615 ?_
          refine m_eqs (w := x429) (by rw [ex429, show x438.toInt.toNat = x427.toInt.toNat by omega]) ?_
          refine m_callV (n := 1) (ci := 11) (st := []) C (c_X12_worst l G τ430 (x429) i431 ) (by decide) (by decide) rfl rfl rfl q5_124 q5_121 q5_122 q5_123 q1_7 (by decide +kernel) rfl (by decide) ⟨by show (250 + 8 * y3.toInt.toNat) + 0 ≤ 600000; omega, by show (5300 + 24 * y3.toInt.toNat) + 0 ≤ 7302250; omega⟩ rfl (Nat.le_of_ble_eq_true rfl) dL_law_616 ?_
          rintro _ τ440 ⟨x443, rfl, i441, f442, b444⟩
          have r447 : Rel τ440 := r437.call f442 (by decide) (by decide)
          show MW p l e _ s m _ below meth c _ 4 G (250 + 8 * y3.toInt.toNat) (5300 + 24 * y3.toInt.toNat) 619 [some (.ref b), some (.ref (G.1 0 0)), some (.ref (G.1 22 0)), some (.int y3)] [.int x443] τ440
          refine m_pop C dL_law_619 rfl ?_
          refine m_goto (tgt := 1028) C dL_law_620 (by decide) ?_
          obtain ⟨x448, ex448⟩ : ∃ y : Int32, y = y3 + 6 := ⟨_, rfl⟩
          have tx448 : x448.toInt = y3.toInt + 6 := by rw [ex448, ti_addv b8 kc_6 (by decide), kt_6]
          have b449 : IV x448 6 3072 := by rw [ex448]; exact iv_add b8 kc_6 (by decide)
          refine m_iinc (v := x448) (L1 := [some (.ref b), some (.ref (G.1 0 0)), some (.ref (G.1 22 0)), some (.int x448)]) C dL_law_1028 rfl (by rw [ex448]; rfl) (by decide) rfl rfl ?_
          refine m_goto (tgt := 18) C dL_law_1031 (by decide) ?_
          refine m_widen (c2 := 250 + 8 * x448.toInt.toNat) (s2 := 5300 + 24 * x448.toInt.toNat) (by omega) (by omega) ?_
          exact ih18 τ440 x448 i441 r447 (iv_wk b449 (by decide)) (by have q := hm18; omega)
        by_cases s450 : x11.toInt = 15
        · refine m_tableIn (tgt := 623) (off := 590) C dL_law_33 (by omega) (by omega) (by rw [s450]; rfl) (by decide) ?_
          have b451 : IV x11 15 15 := ⟨by omega, by omega⟩
          refine m_aload_n C dL_law_623 rfl rfl ?_
          refine m_callV (n := 0) (ci := 10) (st := []) C (c_X11_most l G τ  iτ ) (by decide) (by decide) rfl rfl rfl q3_139 q3_136 q3_137 q3_138 q1_1 (by decide +kernel) rfl (by decide) ⟨by show (250 + 8 * y3.toInt.toNat) + 0 ≤ 600000; omega, by show (5300 + 24 * y3.toInt.toNat) + 0 ≤ 7302250; omega⟩ rfl (Nat.le_of_ble_eq_true rfl) dL_law_624 ?_
          rintro _ τ452 ⟨x455, rfl, i453, f454, b456⟩
          have r459 : Rel τ452 := rτ.call f454 (by decide) (by decide)
          show MW p l e _ s m _ below meth c _ 4 G (250 + 8 * y3.toInt.toNat) (5300 + 24 * y3.toInt.toNat) 627 [some (.ref b), some (.ref (G.1 0 0)), some (.ref (G.1 22 0)), some (.int y3)] [.int x455] τ452
          refine m_pop C dL_law_627 rfl ?_
          refine m_aload_n C dL_law_628 rfl rfl ?_
          refine m_callV (n := 0) (ci := 11) (st := []) C (c_X12_most l G τ452  i453 ) (by decide) (by decide) rfl rfl rfl q5_136 q5_133 q5_134 q5_135 q1_7 (by decide +kernel) rfl (by decide) ⟨by show (250 + 8 * y3.toInt.toNat) + 0 ≤ 600000; omega, by show (5300 + 24 * y3.toInt.toNat) + 0 ≤ 7302250; omega⟩ rfl (Nat.le_of_ble_eq_true rfl) dL_law_629 ?_
          rintro _ τ460 ⟨x463, rfl, i461, f462, b464⟩
          have r467 : Rel τ460 := r459.call f462 (by decide) (by decide)
          show MW p l e _ s m _ below meth c _ 4 G (250 + 8 * y3.toInt.toNat) (5300 + 24 * y3.toInt.toNat) 632 [some (.ref b), some (.ref (G.1 0 0)), some (.ref (G.1 22 0)), some (.int y3)] [.int x463] τ460
          refine m_pop C dL_law_632 rfl ?_
          refine m_goto (tgt := 1028) C dL_law_633 (by decide) ?_
          obtain ⟨x468, ex468⟩ : ∃ y : Int32, y = y3 + 6 := ⟨_, rfl⟩
          have tx468 : x468.toInt = y3.toInt + 6 := by rw [ex468, ti_addv b8 kc_6 (by decide), kt_6]
          have b469 : IV x468 6 3072 := by rw [ex468]; exact iv_add b8 kc_6 (by decide)
          refine m_iinc (v := x468) (L1 := [some (.ref b), some (.ref (G.1 0 0)), some (.ref (G.1 22 0)), some (.int x468)]) C dL_law_1028 rfl (by rw [ex468]; rfl) (by decide) rfl rfl ?_
          refine m_goto (tgt := 18) C dL_law_1031 (by decide) ?_
          refine m_widen (c2 := 250 + 8 * x468.toInt.toNat) (s2 := 5300 + 24 * x468.toInt.toNat) (by omega) (by omega) ?_
          exact ih18 τ460 x468 i461 r467 (iv_wk b469 (by decide)) (by have q := hm18; omega)
        by_cases s470 : x11.toInt = 16
        · refine m_tableIn (tgt := 636) (off := 603) C dL_law_33 (by omega) (by omega) (by rw [s470]; rfl) (by decide) ?_
          have b471 : IV x11 16 16 := ⟨by omega, by omega⟩
          refine m_aload_n C dL_law_636 rfl rfl ?_
          refine m_aload_n C dL_law_637 rfl rfl ?_
          refine m_iload_n C dL_law_638 rfl rfl ?_
          refine m_iconst (v := 1) C dL_law_639 (by decide) ?_
          refine m_iadd C dL_law_640 ?_
          refine m_topi (fun x472 ex472 => ?_)
          have tx472 : x472.toInt = y3.toInt + 1 := by rw [ex472, ti_addv b8 kc_1 (by decide), kt_1]
          have b473 : IV x472 1 3067 := by rw [ex472]; exact iv_add b8 kc_1 (by decide)
          refine m_sld C hX hbl hbA ⟨by omega, by omega⟩ dL_law_641 ?_
          refine m_topi (fun x474 ex474 => ?_)
          refine m_aload_n C dL_law_642 rfl rfl ?_
          refine m_iload_n C dL_law_643 rfl rfl ?_
          refine m_iconst (v := 2) C dL_law_644 (by decide) ?_
          refine m_iadd C dL_law_645 ?_
          refine m_topi (fun x475 ex475 => ?_)
          have tx475 : x475.toInt = y3.toInt + 2 := by rw [ex475, ti_addv b8 kc_2 (by decide), kt_2]
          have b476 : IV x475 2 3068 := by rw [ex475]; exact iv_add b8 kc_2 (by decide)
          refine m_sld C hX hbl hbA ⟨by omega, by omega⟩ dL_law_646 ?_
          refine m_topi (fun x477 ex477 => ?_)
          refine m_aload_n C dL_law_647 rfl rfl ?_
          refine m_iload_n C dL_law_648 rfl rfl ?_
          refine m_iconst (v := 3) C dL_law_649 (by decide) ?_
          refine m_iadd C dL_law_650 ?_
          refine m_topi (fun x478 ex478 => ?_)
          have tx478 : x478.toInt = y3.toInt + 3 := by rw [ex478, ti_addv b8 kc_3 (by decide), kt_3]
          have b479 : IV x478 3 3069 := by rw [ex478]; exact iv_add b8 kc_3 (by decide)
          refine m_sld C hX hbl hbA ⟨by omega, by omega⟩ dL_law_651 ?_
          refine m_topi (fun x480 ex480 => ?_)
          refine m_callV (n := 3) (ci := 10) (st := []) C (c_X11_two l G τ (x474) (x477) (x480) iτ ) (by decide) (by decide) rfl rfl rfl q3_157 q3_154 q3_155 q3_156 q1_1 (by decide +kernel) rfl (by decide) ⟨by show (250 + 8 * y3.toInt.toNat) + 0 ≤ 600000; omega, by show (5300 + 24 * y3.toInt.toNat) + 0 ≤ 7302250; omega⟩ rfl (Nat.le_of_ble_eq_true rfl) dL_law_652 ?_
          rintro _ τ481 ⟨x484, rfl, i482, f483, b485⟩
          have r488 : Rel τ481 := rτ.call f483 (by decide) (by decide)
          show MW p l e _ s m _ below meth c _ 4 G (250 + 8 * y3.toInt.toNat) (5300 + 24 * y3.toInt.toNat) 655 [some (.ref b), some (.ref (G.1 0 0)), some (.ref (G.1 22 0)), some (.int y3)] [.int x484] τ481
          refine m_pop C dL_law_655 rfl ?_
          refine m_aload_n C dL_law_656 rfl rfl ?_
          refine m_aload_n C dL_law_657 rfl rfl ?_
          refine m_iload_n C dL_law_658 rfl rfl ?_
          refine m_iconst (v := 1) C dL_law_659 (by decide) ?_
          refine m_iadd C dL_law_660 ?_
          refine m_topi (fun x489 ex489 => ?_)
          have tx489 : x489.toInt = y3.toInt + 1 := by rw [ex489, ti_addv b8 kc_1 (by decide), kt_1]
          have b490 : IV x489 1 3067 := by rw [ex489]; exact iv_add b8 kc_1 (by decide)
          refine m_sld C hX hbl hbA ⟨by omega, by omega⟩ dL_law_661 ?_
          refine m_eqs (w := x474) (by rw [ex474, show x489.toInt.toNat = x472.toInt.toNat by omega]) ?_
          refine m_aload_n C dL_law_662 rfl rfl ?_
          refine m_iload_n C dL_law_663 rfl rfl ?_
          refine m_iconst (v := 2) C dL_law_664 (by decide) ?_
          refine m_iadd C dL_law_665 ?_
          refine m_topi (fun x491 ex491 => ?_)
          have tx491 : x491.toInt = y3.toInt + 2 := by rw [ex491, ti_addv b8 kc_2 (by decide), kt_2]
          have b492 : IV x491 2 3068 := by rw [ex491]; exact iv_add b8 kc_2 (by decide)
          refine m_sld C hX hbl hbA ⟨by omega, by omega⟩ dL_law_666 ?_
          refine m_eqs (w := x477) (by rw [ex477, show x491.toInt.toNat = x475.toInt.toNat by omega]) ?_
          refine m_aload_n C dL_law_667 rfl rfl ?_
          refine m_iload_n C dL_law_668 rfl rfl ?_
          refine m_iconst (v := 3) C dL_law_669 (by decide) ?_
          refine m_iadd C dL_law_670 ?_
          refine m_topi (fun x493 ex493 => ?_)
          have tx493 : x493.toInt = y3.toInt + 3 := by rw [ex493, ti_addv b8 kc_3 (by decide), kt_3]
          have b494 : IV x493 3 3069 := by rw [ex493]; exact iv_add b8 kc_3 (by decide)
          refine m_sld C hX hbl hbA ⟨by omega, by omega⟩ dL_law_671 ?_
          refine m_eqs (w := x480) (by rw [ex480, show x493.toInt.toNat = x478.toInt.toNat by omega]) ?_
          refine m_callV (n := 3) (ci := 11) (st := []) C (c_X12_two l G τ481 (x474) (x477) (x480) i482 ) (by decide) (by decide) rfl rfl rfl q5_146 q5_143 q5_144 q5_145 q1_7 (by decide +kernel) rfl (by decide) ⟨by show (250 + 8 * y3.toInt.toNat) + 0 ≤ 600000; omega, by show (5300 + 24 * y3.toInt.toNat) + 0 ≤ 7302250; omega⟩ rfl (Nat.le_of_ble_eq_true rfl) dL_law_672 ?_
          rintro _ τ495 ⟨x498, rfl, i496, f497, b499⟩
          have r502 : Rel τ495 := r488.call f497 (by decide) (by decide)
          show MW p l e _ s m _ below meth c _ 4 G (250 + 8 * y3.toInt.toNat) (5300 + 24 * y3.toInt.toNat) 675 [some (.ref b), some (.ref (G.1 0 0)), some (.ref (G.1 22 0)), some (.int y3)] [.int x498] τ495
          refine m_pop C dL_law_675 rfl ?_
          refine m_goto (tgt := 1028) C dL_law_676 (by decide) ?_
          obtain ⟨x503, ex503⟩ : ∃ y : Int32, y = y3 + 6 := ⟨_, rfl⟩
          have tx503 : x503.toInt = y3.toInt + 6 := by rw [ex503, ti_addv b8 kc_6 (by decide), kt_6]
          have b504 : IV x503 6 3072 := by rw [ex503]; exact iv_add b8 kc_6 (by decide)
          refine m_iinc (v := x503) (L1 := [some (.ref b), some (.ref (G.1 0 0)), some (.ref (G.1 22 0)), some (.int x503)]) C dL_law_1028 rfl (by rw [ex503]; rfl) (by decide) rfl rfl ?_
          refine m_goto (tgt := 18) C dL_law_1031 (by decide) ?_
          refine m_widen (c2 := 250 + 8 * x503.toInt.toNat) (s2 := 5300 + 24 * x503.toInt.toNat) (by omega) (by omega) ?_
          exact ih18 τ495 x503 i496 r502 (iv_wk b504 (by decide)) (by have q := hm18; omega)
        by_cases s505 : x11.toInt = 17
        · refine m_tableIn (tgt := 679) (off := 646) C dL_law_33 (by omega) (by omega) (by rw [s505]; rfl) (by decide) ?_
          have b506 : IV x11 17 17 := ⟨by omega, by omega⟩
          refine m_aload_n C dL_law_679 rfl rfl ?_
          refine m_aload_n C dL_law_680 rfl rfl ?_
          refine m_iload_n C dL_law_681 rfl rfl ?_
          refine m_iconst (v := 1) C dL_law_682 (by decide) ?_
          refine m_iadd C dL_law_683 ?_
          refine m_topi (fun x507 ex507 => ?_)
          have tx507 : x507.toInt = y3.toInt + 1 := by rw [ex507, ti_addv b8 kc_1 (by decide), kt_1]
          have b508 : IV x507 1 3067 := by rw [ex507]; exact iv_add b8 kc_1 (by decide)
          refine m_sld C hX hbl hbA ⟨by omega, by omega⟩ dL_law_684 ?_
          refine m_topi (fun x509 ex509 => ?_)
          refine m_callV (n := 1) (ci := 10) (st := []) C (c_X11_stones l G τ (x509) iτ ) (by decide) (by decide) rfl rfl rfl q3_170 q3_167 q3_168 q3_169 q1_1 (by decide +kernel) rfl (by decide) ⟨by show (250 + 8 * y3.toInt.toNat) + 0 ≤ 600000; omega, by show (5300 + 24 * y3.toInt.toNat) + 0 ≤ 7302250; omega⟩ rfl (Nat.le_of_ble_eq_true rfl) dL_law_685 ?_
          rintro _ τ510 ⟨x513, rfl, i511, f512, b514⟩
          have r517 : Rel τ510 := rτ.call f512 (by decide) (by decide)
          show MW p l e _ s m _ below meth c _ 4 G (250 + 8 * y3.toInt.toNat) (5300 + 24 * y3.toInt.toNat) 688 [some (.ref b), some (.ref (G.1 0 0)), some (.ref (G.1 22 0)), some (.int y3)] [.int x513] τ510
          refine m_pop C dL_law_688 rfl ?_
          refine m_aload_n C dL_law_689 rfl rfl ?_
          refine m_aload_n C dL_law_690 rfl rfl ?_
          refine m_iload_n C dL_law_691 rfl rfl ?_
          refine m_iconst (v := 1) C dL_law_692 (by decide) ?_
          refine m_iadd C dL_law_693 ?_
          refine m_topi (fun x518 ex518 => ?_)
          have tx518 : x518.toInt = y3.toInt + 1 := by rw [ex518, ti_addv b8 kc_1 (by decide), kt_1]
          have b519 : IV x518 1 3067 := by rw [ex518]; exact iv_add b8 kc_1 (by decide)
          refine m_sld C hX hbl hbA ⟨by omega, by omega⟩ dL_law_694 ?_
          refine m_eqs (w := x509) (by rw [ex509, show x518.toInt.toNat = x507.toInt.toNat by omega]) ?_
          refine m_callV (n := 1) (ci := 11) (st := []) C (c_X12_stones l G τ510 (x509) i511 ) (by decide) (by decide) rfl rfl rfl q5_150 q5_147 q5_148 q5_149 q1_7 (by decide +kernel) rfl (by decide) ⟨by show (250 + 8 * y3.toInt.toNat) + 0 ≤ 600000; omega, by show (5300 + 24 * y3.toInt.toNat) + 0 ≤ 7302250; omega⟩ rfl (Nat.le_of_ble_eq_true rfl) dL_law_695 ?_
          rintro _ τ520 ⟨x523, rfl, i521, f522, b524⟩
          have r527 : Rel τ520 := r517.call f522 (by decide) (by decide)
          show MW p l e _ s m _ below meth c _ 4 G (250 + 8 * y3.toInt.toNat) (5300 + 24 * y3.toInt.toNat) 698 [some (.ref b), some (.ref (G.1 0 0)), some (.ref (G.1 22 0)), some (.int y3)] [.int x523] τ520
          refine m_pop C dL_law_698 rfl ?_
          refine m_goto (tgt := 1028) C dL_law_699 (by decide) ?_
          obtain ⟨x528, ex528⟩ : ∃ y : Int32, y = y3 + 6 := ⟨_, rfl⟩
          have tx528 : x528.toInt = y3.toInt + 6 := by rw [ex528, ti_addv b8 kc_6 (by decide), kt_6]
          have b529 : IV x528 6 3072 := by rw [ex528]; exact iv_add b8 kc_6 (by decide)
          refine m_iinc (v := x528) (L1 := [some (.ref b), some (.ref (G.1 0 0)), some (.ref (G.1 22 0)), some (.int x528)]) C dL_law_1028 rfl (by rw [ex528]; rfl) (by decide) rfl rfl ?_
          refine m_goto (tgt := 18) C dL_law_1031 (by decide) ?_
          refine m_widen (c2 := 250 + 8 * x528.toInt.toNat) (s2 := 5300 + 24 * x528.toInt.toNat) (by omega) (by omega) ?_
          exact ih18 τ520 x528 i521 r527 (iv_wk b529 (by decide)) (by have q := hm18; omega)
        by_cases s530 : x11.toInt = 18
        · refine m_tableIn (tgt := 702) (off := 669) C dL_law_33 (by omega) (by omega) (by rw [s530]; rfl) (by decide) ?_
          have b531 : IV x11 18 18 := ⟨by omega, by omega⟩
          refine m_aload_n C dL_law_702 rfl rfl ?_
          refine m_aload_n C dL_law_703 rfl rfl ?_
          refine m_iload_n C dL_law_704 rfl rfl ?_
          refine m_iconst (v := 1) C dL_law_705 (by decide) ?_
          refine m_iadd C dL_law_706 ?_
          refine m_topi (fun x532 ex532 => ?_)
          have tx532 : x532.toInt = y3.toInt + 1 := by rw [ex532, ti_addv b8 kc_1 (by decide), kt_1]
          have b533 : IV x532 1 3067 := by rw [ex532]; exact iv_add b8 kc_1 (by decide)
          refine m_sld C hX hbl hbA ⟨by omega, by omega⟩ dL_law_707 ?_
          refine m_topi (fun x534 ex534 => ?_)
          refine m_aload_n C dL_law_708 rfl rfl ?_
          refine m_iload_n C dL_law_709 rfl rfl ?_
          refine m_iconst (v := 2) C dL_law_710 (by decide) ?_
          refine m_iadd C dL_law_711 ?_
          refine m_topi (fun x535 ex535 => ?_)
          have tx535 : x535.toInt = y3.toInt + 2 := by rw [ex535, ti_addv b8 kc_2 (by decide), kt_2]
          have b536 : IV x535 2 3068 := by rw [ex535]; exact iv_add b8 kc_2 (by decide)
          refine m_sld C hX hbl hbA ⟨by omega, by omega⟩ dL_law_712 ?_
          refine m_topi (fun x537 ex537 => ?_)
          refine m_aload_n C dL_law_713 rfl rfl ?_
          refine m_iload_n C dL_law_714 rfl rfl ?_
          refine m_iconst (v := 3) C dL_law_715 (by decide) ?_
          refine m_iadd C dL_law_716 ?_
          refine m_topi (fun x538 ex538 => ?_)
          have tx538 : x538.toInt = y3.toInt + 3 := by rw [ex538, ti_addv b8 kc_3 (by decide), kt_3]
          have b539 : IV x538 3 3069 := by rw [ex538]; exact iv_add b8 kc_3 (by decide)
          refine m_sld C hX hbl hbA ⟨by omega, by omega⟩ dL_law_717 ?_
          refine m_topi (fun x540 ex540 => ?_)
          refine m_aload_n C dL_law_718 rfl rfl ?_
          refine m_iload_n C dL_law_719 rfl rfl ?_
          refine m_iconst (v := 4) C dL_law_720 (by decide) ?_
          refine m_iadd C dL_law_721 ?_
          refine m_topi (fun x541 ex541 => ?_)
          have tx541 : x541.toInt = y3.toInt + 4 := by rw [ex541, ti_addv b8 kc_4 (by decide), kt_4]
          have b542 : IV x541 4 3070 := by rw [ex541]; exact iv_add b8 kc_4 (by decide)
          refine m_sld C hX hbl hbA ⟨by omega, by omega⟩ dL_law_722 ?_
          refine m_topi (fun x543 ex543 => ?_)
          refine m_callV (n := 4) (ci := 10) (st := []) C (c_X11_marks l G τ (x534) (x537) (x540) (x543) iτ ) (by decide) (by decide) rfl rfl rfl q3_187 q3_184 q3_185 q3_186 q1_1 (by decide +kernel) rfl (by decide) ⟨by show (250 + 8 * y3.toInt.toNat) + 0 ≤ 600000; omega, by show (5300 + 24 * y3.toInt.toNat) + 0 ≤ 7302250; omega⟩ rfl (Nat.le_of_ble_eq_true rfl) dL_law_723 ?_
          rintro _ τ544 ⟨x547, rfl, i545, f546, b548⟩
          have r551 : Rel τ544 := rτ.call f546 (by decide) (by decide)
          show MW p l e _ s m _ below meth c _ 4 G (250 + 8 * y3.toInt.toNat) (5300 + 24 * y3.toInt.toNat) 726 [some (.ref b), some (.ref (G.1 0 0)), some (.ref (G.1 22 0)), some (.int y3)] [.int x547] τ544
          refine m_pop C dL_law_726 rfl ?_
          refine m_aload_n C dL_law_727 rfl rfl ?_
          refine m_aload_n C dL_law_728 rfl rfl ?_
          refine m_iload_n C dL_law_729 rfl rfl ?_
          refine m_iconst (v := 1) C dL_law_730 (by decide) ?_
          refine m_iadd C dL_law_731 ?_
          refine m_topi (fun x552 ex552 => ?_)
          have tx552 : x552.toInt = y3.toInt + 1 := by rw [ex552, ti_addv b8 kc_1 (by decide), kt_1]
          have b553 : IV x552 1 3067 := by rw [ex552]; exact iv_add b8 kc_1 (by decide)
          refine m_sld C hX hbl hbA ⟨by omega, by omega⟩ dL_law_732 ?_
          refine m_eqs (w := x534) (by rw [ex534, show x552.toInt.toNat = x532.toInt.toNat by omega]) ?_
          refine m_aload_n C dL_law_733 rfl rfl ?_
          refine m_iload_n C dL_law_734 rfl rfl ?_
          refine m_iconst (v := 2) C dL_law_735 (by decide) ?_
          refine m_iadd C dL_law_736 ?_
          refine m_topi (fun x554 ex554 => ?_)
          have tx554 : x554.toInt = y3.toInt + 2 := by rw [ex554, ti_addv b8 kc_2 (by decide), kt_2]
          have b555 : IV x554 2 3068 := by rw [ex554]; exact iv_add b8 kc_2 (by decide)
          refine m_sld C hX hbl hbA ⟨by omega, by omega⟩ dL_law_737 ?_
          refine m_eqs (w := x537) (by rw [ex537, show x554.toInt.toNat = x535.toInt.toNat by omega]) ?_
          refine m_aload_n C dL_law_738 rfl rfl ?_
          refine m_iload_n C dL_law_739 rfl rfl ?_
          refine m_iconst (v := 3) C dL_law_740 (by decide) ?_
          refine m_iadd C dL_law_741 ?_
          refine m_topi (fun x556 ex556 => ?_)
          have tx556 : x556.toInt = y3.toInt + 3 := by rw [ex556, ti_addv b8 kc_3 (by decide), kt_3]
          have b557 : IV x556 3 3069 := by rw [ex556]; exact iv_add b8 kc_3 (by decide)
          refine m_sld C hX hbl hbA ⟨by omega, by omega⟩ dL_law_742 ?_
          refine m_eqs (w := x540) (by rw [ex540, show x556.toInt.toNat = x538.toInt.toNat by omega]) ?_
          refine m_aload_n C dL_law_743 rfl rfl ?_
          refine m_iload_n C dL_law_744 rfl rfl ?_
          refine m_iconst (v := 4) C dL_law_745 (by decide) ?_
          refine m_iadd C dL_law_746 ?_
          refine m_topi (fun x558 ex558 => ?_)
          have tx558 : x558.toInt = y3.toInt + 4 := by rw [ex558, ti_addv b8 kc_4 (by decide), kt_4]
          have b559 : IV x558 4 3070 := by rw [ex558]; exact iv_add b8 kc_4 (by decide)
          refine m_sld C hX hbl hbA ⟨by omega, by omega⟩ dL_law_747 ?_
          refine m_eqs (w := x543) (by rw [ex543, show x558.toInt.toNat = x541.toInt.toNat by omega]) ?_
          refine m_callV (n := 4) (ci := 11) (st := []) C (c_X12_marks l G τ544 (x534) (x537) (x540) (x543) i545 ) (by decide) (by decide) rfl rfl rfl q5_154 q5_151 q5_152 q5_153 q1_7 (by decide +kernel) rfl (by decide) ⟨by show (250 + 8 * y3.toInt.toNat) + 0 ≤ 600000; omega, by show (5300 + 24 * y3.toInt.toNat) + 0 ≤ 7302250; omega⟩ rfl (Nat.le_of_ble_eq_true rfl) dL_law_748 ?_
          rintro _ τ560 ⟨x563, rfl, i561, f562, b564⟩
          have r567 : Rel τ560 := r551.call f562 (by decide) (by decide)
          show MW p l e _ s m _ below meth c _ 4 G (250 + 8 * y3.toInt.toNat) (5300 + 24 * y3.toInt.toNat) 751 [some (.ref b), some (.ref (G.1 0 0)), some (.ref (G.1 22 0)), some (.int y3)] [.int x563] τ560
          refine m_pop C dL_law_751 rfl ?_
          refine m_goto (tgt := 1028) C dL_law_752 (by decide) ?_
          obtain ⟨x568, ex568⟩ : ∃ y : Int32, y = y3 + 6 := ⟨_, rfl⟩
          have tx568 : x568.toInt = y3.toInt + 6 := by rw [ex568, ti_addv b8 kc_6 (by decide), kt_6]
          have b569 : IV x568 6 3072 := by rw [ex568]; exact iv_add b8 kc_6 (by decide)
          refine m_iinc (v := x568) (L1 := [some (.ref b), some (.ref (G.1 0 0)), some (.ref (G.1 22 0)), some (.int x568)]) C dL_law_1028 rfl (by rw [ex568]; rfl) (by decide) rfl rfl ?_
          refine m_goto (tgt := 18) C dL_law_1031 (by decide) ?_
          refine m_widen (c2 := 250 + 8 * x568.toInt.toNat) (s2 := 5300 + 24 * x568.toInt.toNat) (by omega) (by omega) ?_
          exact ih18 τ560 x568 i561 r567 (iv_wk b569 (by decide)) (by have q := hm18; omega)
        by_cases s570 : x11.toInt = 19
        · refine m_tableIn (tgt := 755) (off := 722) C dL_law_33 (by omega) (by omega) (by rw [s570]; rfl) (by decide) ?_
          have b571 : IV x11 19 19 := ⟨by omega, by omega⟩
          refine m_aload_n C dL_law_755 rfl rfl ?_
          refine m_aload_n C dL_law_756 rfl rfl ?_
          refine m_iload_n C dL_law_757 rfl rfl ?_
          refine m_iconst (v := 1) C dL_law_758 (by decide) ?_
          refine m_iadd C dL_law_759 ?_
          refine m_topi (fun x572 ex572 => ?_)
          have tx572 : x572.toInt = y3.toInt + 1 := by rw [ex572, ti_addv b8 kc_1 (by decide), kt_1]
          have b573 : IV x572 1 3067 := by rw [ex572]; exact iv_add b8 kc_1 (by decide)
          refine m_sld C hX hbl hbA ⟨by omega, by omega⟩ dL_law_760 ?_
          refine m_topi (fun x574 ex574 => ?_)
          refine m_callV (n := 1) (ci := 10) (st := []) C (c_X11_rescue l G τ (x574) iτ ) (by decide) (by decide) rfl rfl rfl q3_202 q3_199 q3_200 q3_201 q1_1 (by decide +kernel) rfl (by decide) ⟨by show (250 + 8 * y3.toInt.toNat) + 0 ≤ 600000; omega, by show (5300 + 24 * y3.toInt.toNat) + 0 ≤ 7302250; omega⟩ rfl (Nat.le_of_ble_eq_true rfl) dL_law_761 ?_
          rintro _ τ575 ⟨x578, rfl, i576, f577, b579⟩
          have r582 : Rel τ575 := rτ.call f577 (by decide) (by decide)
          show MW p l e _ s m _ below meth c _ 4 G (250 + 8 * y3.toInt.toNat) (5300 + 24 * y3.toInt.toNat) 764 [some (.ref b), some (.ref (G.1 0 0)), some (.ref (G.1 22 0)), some (.int y3)] [.int x578] τ575
          refine m_pop C dL_law_764 rfl ?_
          refine m_aload_n C dL_law_765 rfl rfl ?_
          refine m_aload_n C dL_law_766 rfl rfl ?_
          refine m_iload_n C dL_law_767 rfl rfl ?_
          refine m_iconst (v := 1) C dL_law_768 (by decide) ?_
          refine m_iadd C dL_law_769 ?_
          refine m_topi (fun x583 ex583 => ?_)
          have tx583 : x583.toInt = y3.toInt + 1 := by rw [ex583, ti_addv b8 kc_1 (by decide), kt_1]
          have b584 : IV x583 1 3067 := by rw [ex583]; exact iv_add b8 kc_1 (by decide)
          refine m_sld C hX hbl hbA ⟨by omega, by omega⟩ dL_law_770 ?_
          refine m_eqs (w := x574) (by rw [ex574, show x583.toInt.toNat = x572.toInt.toNat by omega]) ?_
          refine m_callV (n := 1) (ci := 11) (st := []) C (c_X12_rescue l G τ575 (x574) i576 ) (by decide) (by decide) rfl rfl rfl q5_160 q5_157 q5_158 q5_159 q1_7 (by decide +kernel) rfl (by decide) ⟨by show (250 + 8 * y3.toInt.toNat) + 0 ≤ 600000; omega, by show (5300 + 24 * y3.toInt.toNat) + 0 ≤ 7302250; omega⟩ rfl (Nat.le_of_ble_eq_true rfl) dL_law_771 ?_
          rintro _ τ585 ⟨x588, rfl, i586, f587, b589⟩
          have r592 : Rel τ585 := r582.call f587 (by decide) (by decide)
          show MW p l e _ s m _ below meth c _ 4 G (250 + 8 * y3.toInt.toNat) (5300 + 24 * y3.toInt.toNat) 774 [some (.ref b), some (.ref (G.1 0 0)), some (.ref (G.1 22 0)), some (.int y3)] [.int x588] τ585
          refine m_pop C dL_law_774 rfl ?_
          refine m_goto (tgt := 1028) C dL_law_775 (by decide) ?_
          obtain ⟨x593, ex593⟩ : ∃ y : Int32, y = y3 + 6 := ⟨_, rfl⟩
          have tx593 : x593.toInt = y3.toInt + 6 := by rw [ex593, ti_addv b8 kc_6 (by decide), kt_6]
          have b594 : IV x593 6 3072 := by rw [ex593]; exact iv_add b8 kc_6 (by decide)
          refine m_iinc (v := x593) (L1 := [some (.ref b), some (.ref (G.1 0 0)), some (.ref (G.1 22 0)), some (.int x593)]) C dL_law_1028 rfl (by rw [ex593]; rfl) (by decide) rfl rfl ?_
          refine m_goto (tgt := 18) C dL_law_1031 (by decide) ?_
          refine m_widen (c2 := 250 + 8 * x593.toInt.toNat) (s2 := 5300 + 24 * x593.toInt.toNat) (by omega) (by omega) ?_
          exact ih18 τ585 x593 i586 r592 (iv_wk b594 (by decide)) (by have q := hm18; omega)
        by_cases s595 : x11.toInt = 20
        · refine m_tableIn (tgt := 778) (off := 745) C dL_law_33 (by omega) (by omega) (by rw [s595]; rfl) (by decide) ?_
          have b596 : IV x11 20 20 := ⟨by omega, by omega⟩
          refine m_aload_n C dL_law_778 rfl rfl ?_
          refine m_callV (n := 0) (ci := 10) (st := []) C (c_X11_fall l G τ  iτ ) (by decide) (by decide) rfl rfl rfl q3_220 q3_217 q3_218 q3_219 q1_1 (by decide +kernel) rfl (by decide) ⟨by show (250 + 8 * y3.toInt.toNat) + 0 ≤ 600000; omega, by show (5300 + 24 * y3.toInt.toNat) + 0 ≤ 7302250; omega⟩ rfl (Nat.le_of_ble_eq_true rfl) dL_law_779 ?_
          rintro _ τ597 ⟨x600, rfl, i598, f599, b601⟩
          have r604 : Rel τ597 := rτ.call f599 (by decide) (by decide)
          show MW p l e _ s m _ below meth c _ 4 G (250 + 8 * y3.toInt.toNat) (5300 + 24 * y3.toInt.toNat) 782 [some (.ref b), some (.ref (G.1 0 0)), some (.ref (G.1 22 0)), some (.int y3)] [.int x600] τ597
          refine m_pop C dL_law_782 rfl ?_
          refine m_aload_n C dL_law_783 rfl rfl ?_
          refine m_callV (n := 0) (ci := 11) (st := []) C (c_X12_fall l G τ597  i598 ) (by decide) (by decide) rfl rfl rfl q5_168 q5_165 q5_166 q5_167 q1_7 (by decide +kernel) rfl (by decide) ⟨by show (250 + 8 * y3.toInt.toNat) + 0 ≤ 600000; omega, by show (5300 + 24 * y3.toInt.toNat) + 0 ≤ 7302250; omega⟩ rfl (Nat.le_of_ble_eq_true rfl) dL_law_784 ?_
          rintro _ τ605 ⟨x608, rfl, i606, f607, b609⟩
          have r612 : Rel τ605 := r604.call f607 (by decide) (by decide)
          show MW p l e _ s m _ below meth c _ 4 G (250 + 8 * y3.toInt.toNat) (5300 + 24 * y3.toInt.toNat) 787 [some (.ref b), some (.ref (G.1 0 0)), some (.ref (G.1 22 0)), some (.int y3)] [.int x608] τ605
          refine m_pop C dL_law_787 rfl ?_
          refine m_goto (tgt := 1028) C dL_law_788 (by decide) ?_
          obtain ⟨x613, ex613⟩ : ∃ y : Int32, y = y3 + 6 := ⟨_, rfl⟩
          have tx613 : x613.toInt = y3.toInt + 6 := by rw [ex613, ti_addv b8 kc_6 (by decide), kt_6]
          have b614 : IV x613 6 3072 := by rw [ex613]; exact iv_add b8 kc_6 (by decide)
          refine m_iinc (v := x613) (L1 := [some (.ref b), some (.ref (G.1 0 0)), some (.ref (G.1 22 0)), some (.int x613)]) C dL_law_1028 rfl (by rw [ex613]; rfl) (by decide) rfl rfl ?_
          refine m_goto (tgt := 18) C dL_law_1031 (by decide) ?_
          refine m_widen (c2 := 250 + 8 * x613.toInt.toNat) (s2 := 5300 + 24 * x613.toInt.toNat) (by omega) (by omega) ?_
          exact ih18 τ605 x613 i606 r612 (iv_wk b614 (by decide)) (by have q := hm18; omega)
        by_cases s615 : x11.toInt = 21
        · refine m_tableIn (tgt := 791) (off := 758) C dL_law_33 (by omega) (by omega) (by rw [s615]; rfl) (by decide) ?_
          have b616 : IV x11 21 21 := ⟨by omega, by omega⟩
          refine m_aload_n C dL_law_791 rfl rfl ?_
          refine m_aload_n C dL_law_792 rfl rfl ?_
          refine m_iload_n C dL_law_793 rfl rfl ?_
          refine m_iconst (v := 1) C dL_law_794 (by decide) ?_
          refine m_iadd C dL_law_795 ?_
          refine m_topi (fun x617 ex617 => ?_)
          have tx617 : x617.toInt = y3.toInt + 1 := by rw [ex617, ti_addv b8 kc_1 (by decide), kt_1]
          have b618 : IV x617 1 3067 := by rw [ex617]; exact iv_add b8 kc_1 (by decide)
          refine m_sld C hX hbl hbA ⟨by omega, by omega⟩ dL_law_796 ?_
          refine m_topi (fun x619 ex619 => ?_)
          refine m_aload_n C dL_law_797 rfl rfl ?_
          refine m_iload_n C dL_law_798 rfl rfl ?_
          refine m_iconst (v := 2) C dL_law_799 (by decide) ?_
          refine m_iadd C dL_law_800 ?_
          refine m_topi (fun x620 ex620 => ?_)
          have tx620 : x620.toInt = y3.toInt + 2 := by rw [ex620, ti_addv b8 kc_2 (by decide), kt_2]
          have b621 : IV x620 2 3068 := by rw [ex620]; exact iv_add b8 kc_2 (by decide)
          refine m_sld C hX hbl hbA ⟨by omega, by omega⟩ dL_law_801 ?_
          refine m_topi (fun x622 ex622 => ?_)
          refine m_aload_n C dL_law_802 rfl rfl ?_
          refine m_iload_n C dL_law_803 rfl rfl ?_
          refine m_iconst (v := 3) C dL_law_804 (by decide) ?_
          refine m_iadd C dL_law_805 ?_
          refine m_topi (fun x623 ex623 => ?_)
          have tx623 : x623.toInt = y3.toInt + 3 := by rw [ex623, ti_addv b8 kc_3 (by decide), kt_3]
          have b624 : IV x623 3 3069 := by rw [ex623]; exact iv_add b8 kc_3 (by decide)
          refine m_sld C hX hbl hbA ⟨by omega, by omega⟩ dL_law_806 ?_
          refine m_topi (fun x625 ex625 => ?_)
          refine m_callV (n := 3) (ci := 10) (st := []) C (c_X11_bells l G τ (x619) (x622) (x625) iτ ) (by decide) (by decide) rfl rfl rfl q3_224 q3_221 q3_222 q3_223 q1_1 (by decide +kernel) rfl (by decide) ⟨by show (250 + 8 * y3.toInt.toNat) + 0 ≤ 600000; omega, by show (5300 + 24 * y3.toInt.toNat) + 0 ≤ 7302250; omega⟩ rfl (Nat.le_of_ble_eq_true rfl) dL_law_807 ?_
          rintro _ τ626 ⟨x629, rfl, i627, f628, b630⟩
          have r633 : Rel τ626 := rτ.call f628 (by decide) (by decide)
          show MW p l e _ s m _ below meth c _ 4 G (250 + 8 * y3.toInt.toNat) (5300 + 24 * y3.toInt.toNat) 810 [some (.ref b), some (.ref (G.1 0 0)), some (.ref (G.1 22 0)), some (.int y3)] [.int x629] τ626
          refine m_pop C dL_law_810 rfl ?_
          refine m_aload_n C dL_law_811 rfl rfl ?_
          refine m_aload_n C dL_law_812 rfl rfl ?_
          refine m_iload_n C dL_law_813 rfl rfl ?_
          refine m_iconst (v := 1) C dL_law_814 (by decide) ?_
          refine m_iadd C dL_law_815 ?_
          refine m_topi (fun x634 ex634 => ?_)
          have tx634 : x634.toInt = y3.toInt + 1 := by rw [ex634, ti_addv b8 kc_1 (by decide), kt_1]
          have b635 : IV x634 1 3067 := by rw [ex634]; exact iv_add b8 kc_1 (by decide)
          refine m_sld C hX hbl hbA ⟨by omega, by omega⟩ dL_law_816 ?_
          refine m_eqs (w := x619) (by rw [ex619, show x634.toInt.toNat = x617.toInt.toNat by omega]) ?_
          refine m_aload_n C dL_law_817 rfl rfl ?_
          refine m_iload_n C dL_law_818 rfl rfl ?_
          refine m_iconst (v := 2) C dL_law_819 (by decide) ?_
          refine m_iadd C dL_law_820 ?_
          refine m_topi (fun x636 ex636 => ?_)
          have tx636 : x636.toInt = y3.toInt + 2 := by rw [ex636, ti_addv b8 kc_2 (by decide), kt_2]
          have b637 : IV x636 2 3068 := by rw [ex636]; exact iv_add b8 kc_2 (by decide)
          refine m_sld C hX hbl hbA ⟨by omega, by omega⟩ dL_law_821 ?_
          refine m_eqs (w := x622) (by rw [ex622, show x636.toInt.toNat = x620.toInt.toNat by omega]) ?_
          refine m_aload_n C dL_law_822 rfl rfl ?_
          refine m_iload_n C dL_law_823 rfl rfl ?_
          refine m_iconst (v := 3) C dL_law_824 (by decide) ?_
          refine m_iadd C dL_law_825 ?_
          refine m_topi (fun x638 ex638 => ?_)
          have tx638 : x638.toInt = y3.toInt + 3 := by rw [ex638, ti_addv b8 kc_3 (by decide), kt_3]
          have b639 : IV x638 3 3069 := by rw [ex638]; exact iv_add b8 kc_3 (by decide)
          refine m_sld C hX hbl hbA ⟨by omega, by omega⟩ dL_law_826 ?_
          refine m_eqs (w := x625) (by rw [ex625, show x638.toInt.toNat = x623.toInt.toNat by omega]) ?_
          refine m_callV (n := 3) (ci := 11) (st := []) C (c_X12_bells l G τ626 (x619) (x622) (x625) i627 ) (by decide) (by decide) rfl rfl rfl q5_172 q5_169 q5_170 q5_171 q1_7 (by decide +kernel) rfl (by decide) ⟨by show (250 + 8 * y3.toInt.toNat) + 0 ≤ 600000; omega, by show (5300 + 24 * y3.toInt.toNat) + 0 ≤ 7302250; omega⟩ rfl (Nat.le_of_ble_eq_true rfl) dL_law_827 ?_
          rintro _ τ640 ⟨x643, rfl, i641, f642, b644⟩
          have r647 : Rel τ640 := r633.call f642 (by decide) (by decide)
          show MW p l e _ s m _ below meth c _ 4 G (250 + 8 * y3.toInt.toNat) (5300 + 24 * y3.toInt.toNat) 830 [some (.ref b), some (.ref (G.1 0 0)), some (.ref (G.1 22 0)), some (.int y3)] [.int x643] τ640
          refine m_pop C dL_law_830 rfl ?_
          refine m_goto (tgt := 1028) C dL_law_831 (by decide) ?_
          obtain ⟨x648, ex648⟩ : ∃ y : Int32, y = y3 + 6 := ⟨_, rfl⟩
          have tx648 : x648.toInt = y3.toInt + 6 := by rw [ex648, ti_addv b8 kc_6 (by decide), kt_6]
          have b649 : IV x648 6 3072 := by rw [ex648]; exact iv_add b8 kc_6 (by decide)
          refine m_iinc (v := x648) (L1 := [some (.ref b), some (.ref (G.1 0 0)), some (.ref (G.1 22 0)), some (.int x648)]) C dL_law_1028 rfl (by rw [ex648]; rfl) (by decide) rfl rfl ?_
          refine m_goto (tgt := 18) C dL_law_1031 (by decide) ?_
          refine m_widen (c2 := 250 + 8 * x648.toInt.toNat) (s2 := 5300 + 24 * x648.toInt.toNat) (by omega) (by omega) ?_
          exact ih18 τ640 x648 i641 r647 (iv_wk b649 (by decide)) (by have q := hm18; omega)
        by_cases s650 : x11.toInt = 22
        · refine m_tableIn (tgt := 834) (off := 801) C dL_law_33 (by omega) (by omega) (by rw [s650]; rfl) (by decide) ?_
          have b651 : IV x11 22 22 := ⟨by omega, by omega⟩
          refine m_aload_n C dL_law_834 rfl rfl ?_
          refine m_aload_n C dL_law_835 rfl rfl ?_
          refine m_iload_n C dL_law_836 rfl rfl ?_
          refine m_iconst (v := 1) C dL_law_837 (by decide) ?_
          refine m_iadd C dL_law_838 ?_
          refine m_topi (fun x652 ex652 => ?_)
          have tx652 : x652.toInt = y3.toInt + 1 := by rw [ex652, ti_addv b8 kc_1 (by decide), kt_1]
          have b653 : IV x652 1 3067 := by rw [ex652]; exact iv_add b8 kc_1 (by decide)
          refine m_sld C hX hbl hbA ⟨by omega, by omega⟩ dL_law_839 ?_
          refine m_topi (fun x654 ex654 => ?_)
          refine m_callV (n := 1) (ci := 10) (st := []) C (c_X11_image l G τ (x654) iτ ) (by decide) (by decide) rfl rfl rfl q4_0 q3_237 q3_238 q3_239 q1_1 (by decide +kernel) rfl (by decide) ⟨by show (250 + 8 * y3.toInt.toNat) + 0 ≤ 600000; omega, by show (5300 + 24 * y3.toInt.toNat) + 0 ≤ 7302250; omega⟩ rfl (Nat.le_of_ble_eq_true rfl) dL_law_840 ?_
          rintro _ τ655 ⟨x658, rfl, i656, f657, b659⟩
          have r662 : Rel τ655 := rτ.call f657 (by decide) (by decide)
          show MW p l e _ s m _ below meth c _ 4 G (250 + 8 * y3.toInt.toNat) (5300 + 24 * y3.toInt.toNat) 843 [some (.ref b), some (.ref (G.1 0 0)), some (.ref (G.1 22 0)), some (.int y3)] [.int x658] τ655
          refine m_pop C dL_law_843 rfl ?_
          refine m_aload_n C dL_law_844 rfl rfl ?_
          refine m_aload_n C dL_law_845 rfl rfl ?_
          refine m_iload_n C dL_law_846 rfl rfl ?_
          refine m_iconst (v := 1) C dL_law_847 (by decide) ?_
          refine m_iadd C dL_law_848 ?_
          refine m_topi (fun x663 ex663 => ?_)
          have tx663 : x663.toInt = y3.toInt + 1 := by rw [ex663, ti_addv b8 kc_1 (by decide), kt_1]
          have b664 : IV x663 1 3067 := by rw [ex663]; exact iv_add b8 kc_1 (by decide)
          refine m_sld C hX hbl hbA ⟨by omega, by omega⟩ dL_law_849 ?_
          refine m_eqs (w := x654) (by rw [ex654, show x663.toInt.toNat = x652.toInt.toNat by omega]) ?_
          refine m_callV (n := 1) (ci := 11) (st := []) C (c_X12_image l G τ655 (x654) i656 ) (by decide) (by decide) rfl rfl rfl q5_178 q5_175 q5_176 q5_177 q1_7 (by decide +kernel) rfl (by decide) ⟨by show (250 + 8 * y3.toInt.toNat) + 0 ≤ 600000; omega, by show (5300 + 24 * y3.toInt.toNat) + 0 ≤ 7302250; omega⟩ rfl (Nat.le_of_ble_eq_true rfl) dL_law_850 ?_
          rintro _ τ665 ⟨x668, rfl, i666, f667, b669⟩
          have r672 : Rel τ665 := r662.call f667 (by decide) (by decide)
          show MW p l e _ s m _ below meth c _ 4 G (250 + 8 * y3.toInt.toNat) (5300 + 24 * y3.toInt.toNat) 853 [some (.ref b), some (.ref (G.1 0 0)), some (.ref (G.1 22 0)), some (.int y3)] [.int x668] τ665
          refine m_pop C dL_law_853 rfl ?_
          refine m_goto (tgt := 1028) C dL_law_854 (by decide) ?_
          obtain ⟨x673, ex673⟩ : ∃ y : Int32, y = y3 + 6 := ⟨_, rfl⟩
          have tx673 : x673.toInt = y3.toInt + 6 := by rw [ex673, ti_addv b8 kc_6 (by decide), kt_6]
          have b674 : IV x673 6 3072 := by rw [ex673]; exact iv_add b8 kc_6 (by decide)
          refine m_iinc (v := x673) (L1 := [some (.ref b), some (.ref (G.1 0 0)), some (.ref (G.1 22 0)), some (.int x673)]) C dL_law_1028 rfl (by rw [ex673]; rfl) (by decide) rfl rfl ?_
          refine m_goto (tgt := 18) C dL_law_1031 (by decide) ?_
          refine m_widen (c2 := 250 + 8 * x673.toInt.toNat) (s2 := 5300 + 24 * x673.toInt.toNat) (by omega) (by omega) ?_
          exact ih18 τ665 x673 i666 r672 (iv_wk b674 (by decide)) (by have q := hm18; omega)
        by_cases s675 : x11.toInt = 23
        · refine m_tableIn (tgt := 857) (off := 824) C dL_law_33 (by omega) (by omega) (by rw [s675]; rfl) (by decide) ?_
          have b676 : IV x11 23 23 := ⟨by omega, by omega⟩
          refine m_aload_n C dL_law_857 rfl rfl ?_
          refine m_aload_n C dL_law_858 rfl rfl ?_
          refine m_iload_n C dL_law_859 rfl rfl ?_
          refine m_iconst (v := 1) C dL_law_860 (by decide) ?_
          refine m_iadd C dL_law_861 ?_
          refine m_topi (fun x677 ex677 => ?_)
          have tx677 : x677.toInt = y3.toInt + 1 := by rw [ex677, ti_addv b8 kc_1 (by decide), kt_1]
          have b678 : IV x677 1 3067 := by rw [ex677]; exact iv_add b8 kc_1 (by decide)
          refine m_sld C hX hbl hbA ⟨by omega, by omega⟩ dL_law_862 ?_
          refine m_topi (fun x679 ex679 => ?_)
          refine m_callV (n := 1) (ci := 10) (st := []) C (c_X11_restore l G τ (x679) iτ ) (by decide) (by decide) rfl rfl rfl q4_4 q4_1 q4_2 q4_3 q1_1 (by decide +kernel) rfl (by decide) ⟨by show (250 + 8 * y3.toInt.toNat) + 0 ≤ 600000; omega, by show (5300 + 24 * y3.toInt.toNat) + 0 ≤ 7302250; omega⟩ rfl (Nat.le_of_ble_eq_true rfl) dL_law_863 ?_
          rintro _ τ680 ⟨x683, rfl, i681, f682, b684⟩
          have r687 : Rel τ680 := rτ.call f682 (by decide) (by decide)
          show MW p l e _ s m _ below meth c _ 4 G (250 + 8 * y3.toInt.toNat) (5300 + 24 * y3.toInt.toNat) 866 [some (.ref b), some (.ref (G.1 0 0)), some (.ref (G.1 22 0)), some (.int y3)] [.int x683] τ680
          refine m_pop C dL_law_866 rfl ?_
          refine m_aload_n C dL_law_867 rfl rfl ?_
          refine m_aload_n C dL_law_868 rfl rfl ?_
          refine m_iload_n C dL_law_869 rfl rfl ?_
          refine m_iconst (v := 1) C dL_law_870 (by decide) ?_
          refine m_iadd C dL_law_871 ?_
          refine m_topi (fun x688 ex688 => ?_)
          have tx688 : x688.toInt = y3.toInt + 1 := by rw [ex688, ti_addv b8 kc_1 (by decide), kt_1]
          have b689 : IV x688 1 3067 := by rw [ex688]; exact iv_add b8 kc_1 (by decide)
          refine m_sld C hX hbl hbA ⟨by omega, by omega⟩ dL_law_872 ?_
          refine m_eqs (w := x679) (by rw [ex679, show x688.toInt.toNat = x677.toInt.toNat by omega]) ?_
          refine m_callV (n := 1) (ci := 11) (st := []) C (c_X12_restore l G τ680 (x679) i681 ) (by decide) (by decide) rfl rfl rfl q5_182 q5_179 q5_180 q5_181 q1_7 (by decide +kernel) rfl (by decide) ⟨by show (250 + 8 * y3.toInt.toNat) + 0 ≤ 600000; omega, by show (5300 + 24 * y3.toInt.toNat) + 0 ≤ 7302250; omega⟩ rfl (Nat.le_of_ble_eq_true rfl) dL_law_873 ?_
          rintro _ τ690 ⟨x693, rfl, i691, f692, b694⟩
          have r697 : Rel τ690 := r687.call f692 (by decide) (by decide)
          show MW p l e _ s m _ below meth c _ 4 G (250 + 8 * y3.toInt.toNat) (5300 + 24 * y3.toInt.toNat) 876 [some (.ref b), some (.ref (G.1 0 0)), some (.ref (G.1 22 0)), some (.int y3)] [.int x693] τ690
          refine m_pop C dL_law_876 rfl ?_
          refine m_goto (tgt := 1028) C dL_law_877 (by decide) ?_
          obtain ⟨x698, ex698⟩ : ∃ y : Int32, y = y3 + 6 := ⟨_, rfl⟩
          have tx698 : x698.toInt = y3.toInt + 6 := by rw [ex698, ti_addv b8 kc_6 (by decide), kt_6]
          have b699 : IV x698 6 3072 := by rw [ex698]; exact iv_add b8 kc_6 (by decide)
          refine m_iinc (v := x698) (L1 := [some (.ref b), some (.ref (G.1 0 0)), some (.ref (G.1 22 0)), some (.int x698)]) C dL_law_1028 rfl (by rw [ex698]; rfl) (by decide) rfl rfl ?_
          refine m_goto (tgt := 18) C dL_law_1031 (by decide) ?_
          refine m_widen (c2 := 250 + 8 * x698.toInt.toNat) (s2 := 5300 + 24 * x698.toInt.toNat) (by omega) (by omega) ?_
          exact ih18 τ690 x698 i691 r697 (iv_wk b699 (by decide)) (by have q := hm18; omega)
        by_cases s700 : x11.toInt = 24
        · refine m_tableIn (tgt := 880) (off := 847) C dL_law_33 (by omega) (by omega) (by rw [s700]; rfl) (by decide) ?_
          have b701 : IV x11 24 24 := ⟨by omega, by omega⟩
          refine m_aload_n C dL_law_880 rfl rfl ?_
          refine m_aload_n C dL_law_881 rfl rfl ?_
          refine m_iload_n C dL_law_882 rfl rfl ?_
          refine m_iconst (v := 1) C dL_law_883 (by decide) ?_
          refine m_iadd C dL_law_884 ?_
          refine m_topi (fun x702 ex702 => ?_)
          have tx702 : x702.toInt = y3.toInt + 1 := by rw [ex702, ti_addv b8 kc_1 (by decide), kt_1]
          have b703 : IV x702 1 3067 := by rw [ex702]; exact iv_add b8 kc_1 (by decide)
          refine m_sld C hX hbl hbA ⟨by omega, by omega⟩ dL_law_885 ?_
          refine m_topi (fun x704 ex704 => ?_)
          refine m_callV (n := 1) (ci := 10) (st := []) C (c_X11_kind l G τ (x704) iτ ) (by decide) (by decide) rfl rfl rfl q4_8 q4_5 q4_6 q4_7 q1_1 (by decide +kernel) rfl (by decide) ⟨by show (250 + 8 * y3.toInt.toNat) + 0 ≤ 600000; omega, by show (5300 + 24 * y3.toInt.toNat) + 0 ≤ 7302250; omega⟩ rfl (Nat.le_of_ble_eq_true rfl) dL_law_886 ?_
          rintro _ τ705 ⟨x708, rfl, i706, f707, b709⟩
          have r712 : Rel τ705 := rτ.call f707 (by decide) (by decide)
          show MW p l e _ s m _ below meth c _ 4 G (250 + 8 * y3.toInt.toNat) (5300 + 24 * y3.toInt.toNat) 889 [some (.ref b), some (.ref (G.1 0 0)), some (.ref (G.1 22 0)), some (.int y3)] [.int x708] τ705
          refine m_pop C dL_law_889 rfl ?_
          refine m_aload_n C dL_law_890 rfl rfl ?_
          refine m_aload_n C dL_law_891 rfl rfl ?_
          refine m_iload_n C dL_law_892 rfl rfl ?_
          refine m_iconst (v := 1) C dL_law_893 (by decide) ?_
          refine m_iadd C dL_law_894 ?_
          refine m_topi (fun x713 ex713 => ?_)
          have tx713 : x713.toInt = y3.toInt + 1 := by rw [ex713, ti_addv b8 kc_1 (by decide), kt_1]
          have b714 : IV x713 1 3067 := by rw [ex713]; exact iv_add b8 kc_1 (by decide)
          refine m_sld C hX hbl hbA ⟨by omega, by omega⟩ dL_law_895 ?_
          refine m_eqs (w := x704) (by rw [ex704, show x713.toInt.toNat = x702.toInt.toNat by omega]) ?_
          refine m_callV (n := 1) (ci := 11) (st := []) C (c_X12_kind l G τ705 (x704) i706 ) (by decide) (by decide) rfl rfl rfl q5_186 q5_183 q5_184 q5_185 q1_7 (by decide +kernel) rfl (by decide) ⟨by show (250 + 8 * y3.toInt.toNat) + 0 ≤ 600000; omega, by show (5300 + 24 * y3.toInt.toNat) + 0 ≤ 7302250; omega⟩ rfl (Nat.le_of_ble_eq_true rfl) dL_law_896 ?_
          rintro _ τ715 ⟨x718, rfl, i716, f717, b719⟩
          have r722 : Rel τ715 := r712.call f717 (by decide) (by decide)
          show MW p l e _ s m _ below meth c _ 4 G (250 + 8 * y3.toInt.toNat) (5300 + 24 * y3.toInt.toNat) 899 [some (.ref b), some (.ref (G.1 0 0)), some (.ref (G.1 22 0)), some (.int y3)] [.int x718] τ715
          refine m_pop C dL_law_899 rfl ?_
          refine m_goto (tgt := 1028) C dL_law_900 (by decide) ?_
          obtain ⟨x723, ex723⟩ : ∃ y : Int32, y = y3 + 6 := ⟨_, rfl⟩
          have tx723 : x723.toInt = y3.toInt + 6 := by rw [ex723, ti_addv b8 kc_6 (by decide), kt_6]
          have b724 : IV x723 6 3072 := by rw [ex723]; exact iv_add b8 kc_6 (by decide)
          refine m_iinc (v := x723) (L1 := [some (.ref b), some (.ref (G.1 0 0)), some (.ref (G.1 22 0)), some (.int x723)]) C dL_law_1028 rfl (by rw [ex723]; rfl) (by decide) rfl rfl ?_
          refine m_goto (tgt := 18) C dL_law_1031 (by decide) ?_
          refine m_widen (c2 := 250 + 8 * x723.toInt.toNat) (s2 := 5300 + 24 * x723.toInt.toNat) (by omega) (by omega) ?_
          exact ih18 τ715 x723 i716 r722 (iv_wk b724 (by decide)) (by have q := hm18; omega)
        by_cases s725 : x11.toInt = 25
        · refine m_tableIn (tgt := 903) (off := 870) C dL_law_33 (by omega) (by omega) (by rw [s725]; rfl) (by decide) ?_
          have b726 : IV x11 25 25 := ⟨by omega, by omega⟩
          refine m_aload_n C dL_law_903 rfl rfl ?_
          refine m_aload_n C dL_law_904 rfl rfl ?_
          refine m_iload_n C dL_law_905 rfl rfl ?_
          refine m_iconst (v := 1) C dL_law_906 (by decide) ?_
          refine m_iadd C dL_law_907 ?_
          refine m_topi (fun x727 ex727 => ?_)
          have tx727 : x727.toInt = y3.toInt + 1 := by rw [ex727, ti_addv b8 kc_1 (by decide), kt_1]
          have b728 : IV x727 1 3067 := by rw [ex727]; exact iv_add b8 kc_1 (by decide)
          refine m_sld C hX hbl hbA ⟨by omega, by omega⟩ dL_law_908 ?_
          refine m_topi (fun x729 ex729 => ?_)
          refine m_aload_n C dL_law_909 rfl rfl ?_
          refine m_iload_n C dL_law_910 rfl rfl ?_
          refine m_iconst (v := 2) C dL_law_911 (by decide) ?_
          refine m_iadd C dL_law_912 ?_
          refine m_topi (fun x730 ex730 => ?_)
          have tx730 : x730.toInt = y3.toInt + 2 := by rw [ex730, ti_addv b8 kc_2 (by decide), kt_2]
          have b731 : IV x730 2 3068 := by rw [ex730]; exact iv_add b8 kc_2 (by decide)
          refine m_sld C hX hbl hbA ⟨by omega, by omega⟩ dL_law_913 ?_
          refine m_topi (fun x732 ex732 => ?_)
          refine m_callV (n := 2) (ci := 10) (st := []) C (c_X11_as l G τ (x729) (x732) iτ ) (by decide) (by decide) rfl rfl rfl q4_30 q4_27 q4_28 q4_29 q1_1 (by decide +kernel) rfl (by decide) ⟨by show (250 + 8 * y3.toInt.toNat) + 0 ≤ 600000; omega, by show (5300 + 24 * y3.toInt.toNat) + 0 ≤ 7302250; omega⟩ rfl (Nat.le_of_ble_eq_true rfl) dL_law_914 ?_
          rintro _ τ733 ⟨x736, rfl, i734, f735, b737⟩
          have r740 : Rel τ733 := rτ.call f735 (by decide) (by decide)
          show MW p l e _ s m _ below meth c _ 4 G (250 + 8 * y3.toInt.toNat) (5300 + 24 * y3.toInt.toNat) 917 [some (.ref b), some (.ref (G.1 0 0)), some (.ref (G.1 22 0)), some (.int y3)] [.int x736] τ733
          refine m_pop C dL_law_917 rfl ?_
          refine m_aload_n C dL_law_918 rfl rfl ?_
          refine m_aload_n C dL_law_919 rfl rfl ?_
          refine m_iload_n C dL_law_920 rfl rfl ?_
          refine m_iconst (v := 1) C dL_law_921 (by decide) ?_
          refine m_iadd C dL_law_922 ?_
          refine m_topi (fun x741 ex741 => ?_)
          have tx741 : x741.toInt = y3.toInt + 1 := by rw [ex741, ti_addv b8 kc_1 (by decide), kt_1]
          have b742 : IV x741 1 3067 := by rw [ex741]; exact iv_add b8 kc_1 (by decide)
          refine m_sld C hX hbl hbA ⟨by omega, by omega⟩ dL_law_923 ?_
          refine m_eqs (w := x729) (by rw [ex729, show x741.toInt.toNat = x727.toInt.toNat by omega]) ?_
          refine m_aload_n C dL_law_924 rfl rfl ?_
          refine m_iload_n C dL_law_925 rfl rfl ?_
          refine m_iconst (v := 2) C dL_law_926 (by decide) ?_
          refine m_iadd C dL_law_927 ?_
          refine m_topi (fun x743 ex743 => ?_)
          have tx743 : x743.toInt = y3.toInt + 2 := by rw [ex743, ti_addv b8 kc_2 (by decide), kt_2]
          have b744 : IV x743 2 3068 := by rw [ex743]; exact iv_add b8 kc_2 (by decide)
          refine m_sld C hX hbl hbA ⟨by omega, by omega⟩ dL_law_928 ?_
          refine m_eqs (w := x732) (by rw [ex732, show x743.toInt.toNat = x730.toInt.toNat by omega]) ?_
          refine m_callV (n := 2) (ci := 11) (st := []) C (c_X12_as l G τ733 (x729) (x732) i734 ) (by decide) (by decide) rfl rfl rfl q5_190 q5_187 q5_188 q5_189 q1_7 (by decide +kernel) rfl (by decide) ⟨by show (250 + 8 * y3.toInt.toNat) + 0 ≤ 600000; omega, by show (5300 + 24 * y3.toInt.toNat) + 0 ≤ 7302250; omega⟩ rfl (Nat.le_of_ble_eq_true rfl) dL_law_929 ?_
          rintro _ τ745 ⟨x748, rfl, i746, f747, b749⟩
          have r752 : Rel τ745 := r740.call f747 (by decide) (by decide)
          show MW p l e _ s m _ below meth c _ 4 G (250 + 8 * y3.toInt.toNat) (5300 + 24 * y3.toInt.toNat) 932 [some (.ref b), some (.ref (G.1 0 0)), some (.ref (G.1 22 0)), some (.int y3)] [.int x748] τ745
          refine m_pop C dL_law_932 rfl ?_
          refine m_goto (tgt := 1028) C dL_law_933 (by decide) ?_
          obtain ⟨x753, ex753⟩ : ∃ y : Int32, y = y3 + 6 := ⟨_, rfl⟩
          have tx753 : x753.toInt = y3.toInt + 6 := by rw [ex753, ti_addv b8 kc_6 (by decide), kt_6]
          have b754 : IV x753 6 3072 := by rw [ex753]; exact iv_add b8 kc_6 (by decide)
          refine m_iinc (v := x753) (L1 := [some (.ref b), some (.ref (G.1 0 0)), some (.ref (G.1 22 0)), some (.int x753)]) C dL_law_1028 rfl (by rw [ex753]; rfl) (by decide) rfl rfl ?_
          refine m_goto (tgt := 18) C dL_law_1031 (by decide) ?_
          refine m_widen (c2 := 250 + 8 * x753.toInt.toNat) (s2 := 5300 + 24 * x753.toInt.toNat) (by omega) (by omega) ?_
          exact ih18 τ745 x753 i746 r752 (iv_wk b754 (by decide)) (by have q := hm18; omega)
        by_cases s755 : x11.toInt = 26
        · refine m_tableIn (tgt := 936) (off := 903) C dL_law_33 (by omega) (by omega) (by rw [s755]; rfl) (by decide) ?_
          have b756 : IV x11 26 26 := ⟨by omega, by omega⟩
          refine m_aload_n C dL_law_936 rfl rfl ?_
          refine m_aload_n C dL_law_937 rfl rfl ?_
          refine m_iload_n C dL_law_938 rfl rfl ?_
          refine m_iconst (v := 1) C dL_law_939 (by decide) ?_
          refine m_iadd C dL_law_940 ?_
          refine m_topi (fun x757 ex757 => ?_)
          have tx757 : x757.toInt = y3.toInt + 1 := by rw [ex757, ti_addv b8 kc_1 (by decide), kt_1]
          have b758 : IV x757 1 3067 := by rw [ex757]; exact iv_add b8 kc_1 (by decide)
          refine m_sld C hX hbl hbA ⟨by omega, by omega⟩ dL_law_941 ?_
          refine m_topi (fun x759 ex759 => ?_)
          refine m_aload_n C dL_law_942 rfl rfl ?_
          refine m_iload_n C dL_law_943 rfl rfl ?_
          refine m_iconst (v := 2) C dL_law_944 (by decide) ?_
          refine m_iadd C dL_law_945 ?_
          refine m_topi (fun x760 ex760 => ?_)
          have tx760 : x760.toInt = y3.toInt + 2 := by rw [ex760, ti_addv b8 kc_2 (by decide), kt_2]
          have b761 : IV x760 2 3068 := by rw [ex760]; exact iv_add b8 kc_2 (by decide)
          refine m_sld C hX hbl hbA ⟨by omega, by omega⟩ dL_law_946 ?_
          refine m_topi (fun x762 ex762 => ?_)
          refine m_callV (n := 2) (ci := 10) (st := []) C (c_X11_ask l G τ (x759) (x762) iτ ) (by decide) (by decide) rfl rfl rfl q4_42 q4_39 q4_40 q4_41 q1_1 (by decide +kernel) rfl (by decide) ⟨by show (250 + 8 * y3.toInt.toNat) + 0 ≤ 600000; omega, by show (5300 + 24 * y3.toInt.toNat) + 0 ≤ 7302250; omega⟩ rfl (Nat.le_of_ble_eq_true rfl) dL_law_947 ?_
          rintro _ τ763 ⟨x766, rfl, i764, f765, b767⟩
          have r770 : Rel τ763 := rτ.call f765 (by decide) (by decide)
          show MW p l e _ s m _ below meth c _ 4 G (250 + 8 * y3.toInt.toNat) (5300 + 24 * y3.toInt.toNat) 950 [some (.ref b), some (.ref (G.1 0 0)), some (.ref (G.1 22 0)), some (.int y3)] [.int x766] τ763
          refine m_pop C dL_law_950 rfl ?_
          refine m_aload_n C dL_law_951 rfl rfl ?_
          refine m_aload_n C dL_law_952 rfl rfl ?_
          refine m_iload_n C dL_law_953 rfl rfl ?_
          refine m_iconst (v := 1) C dL_law_954 (by decide) ?_
          refine m_iadd C dL_law_955 ?_
          refine m_topi (fun x771 ex771 => ?_)
          have tx771 : x771.toInt = y3.toInt + 1 := by rw [ex771, ti_addv b8 kc_1 (by decide), kt_1]
          have b772 : IV x771 1 3067 := by rw [ex771]; exact iv_add b8 kc_1 (by decide)
          refine m_sld C hX hbl hbA ⟨by omega, by omega⟩ dL_law_956 ?_
          refine m_eqs (w := x759) (by rw [ex759, show x771.toInt.toNat = x757.toInt.toNat by omega]) ?_
          refine m_aload_n C dL_law_957 rfl rfl ?_
          refine m_iload_n C dL_law_958 rfl rfl ?_
          refine m_iconst (v := 2) C dL_law_959 (by decide) ?_
          refine m_iadd C dL_law_960 ?_
          refine m_topi (fun x773 ex773 => ?_)
          have tx773 : x773.toInt = y3.toInt + 2 := by rw [ex773, ti_addv b8 kc_2 (by decide), kt_2]
          have b774 : IV x773 2 3068 := by rw [ex773]; exact iv_add b8 kc_2 (by decide)
          refine m_sld C hX hbl hbA ⟨by omega, by omega⟩ dL_law_961 ?_
          refine m_eqs (w := x762) (by rw [ex762, show x773.toInt.toNat = x760.toInt.toNat by omega]) ?_
          refine m_callV (n := 2) (ci := 11) (st := []) C (c_X12_ask l G τ763 (x759) (x762) i764 ) (by decide) (by decide) rfl rfl rfl q5_197 q5_194 q5_195 q5_196 q1_7 (by decide +kernel) rfl (by decide) ⟨by show (250 + 8 * y3.toInt.toNat) + 0 ≤ 600000; omega, by show (5300 + 24 * y3.toInt.toNat) + 0 ≤ 7302250; omega⟩ rfl (Nat.le_of_ble_eq_true rfl) dL_law_962 ?_
          rintro _ τ775 ⟨x778, rfl, i776, f777, b779⟩
          have r782 : Rel τ775 := r770.call f777 (by decide) (by decide)
          show MW p l e _ s m _ below meth c _ 4 G (250 + 8 * y3.toInt.toNat) (5300 + 24 * y3.toInt.toNat) 965 [some (.ref b), some (.ref (G.1 0 0)), some (.ref (G.1 22 0)), some (.int y3)] [.int x778] τ775
          refine m_pop C dL_law_965 rfl ?_
          refine m_goto (tgt := 1028) C dL_law_966 (by decide) ?_
          obtain ⟨x783, ex783⟩ : ∃ y : Int32, y = y3 + 6 := ⟨_, rfl⟩
          have tx783 : x783.toInt = y3.toInt + 6 := by rw [ex783, ti_addv b8 kc_6 (by decide), kt_6]
          have b784 : IV x783 6 3072 := by rw [ex783]; exact iv_add b8 kc_6 (by decide)
          refine m_iinc (v := x783) (L1 := [some (.ref b), some (.ref (G.1 0 0)), some (.ref (G.1 22 0)), some (.int x783)]) C dL_law_1028 rfl (by rw [ex783]; rfl) (by decide) rfl rfl ?_
          refine m_goto (tgt := 18) C dL_law_1031 (by decide) ?_
          refine m_widen (c2 := 250 + 8 * x783.toInt.toNat) (s2 := 5300 + 24 * x783.toInt.toNat) (by omega) (by omega) ?_
          exact ih18 τ775 x783 i776 r782 (iv_wk b784 (by decide)) (by have q := hm18; omega)
        by_cases s785 : x11.toInt = 27
        · refine m_tableIn (tgt := 969) (off := 936) C dL_law_33 (by omega) (by omega) (by rw [s785]; rfl) (by decide) ?_
          have b786 : IV x11 27 27 := ⟨by omega, by omega⟩
          refine m_aload_n C dL_law_969 rfl rfl ?_
          refine m_aload_n C dL_law_970 rfl rfl ?_
          refine m_iload_n C dL_law_971 rfl rfl ?_
          refine m_iconst (v := 1) C dL_law_972 (by decide) ?_
          refine m_iadd C dL_law_973 ?_
          refine m_topi (fun x787 ex787 => ?_)
          have tx787 : x787.toInt = y3.toInt + 1 := by rw [ex787, ti_addv b8 kc_1 (by decide), kt_1]
          have b788 : IV x787 1 3067 := by rw [ex787]; exact iv_add b8 kc_1 (by decide)
          refine m_sld C hX hbl hbA ⟨by omega, by omega⟩ dL_law_974 ?_
          refine m_topi (fun x789 ex789 => ?_)
          refine m_callV (n := 1) (ci := 10) (st := []) C (c_X11_trace l G τ (x789) iτ ) (by decide) (by decide) rfl rfl rfl q4_97 q4_94 q4_95 q4_96 q1_1 (by decide +kernel) rfl (by decide) ⟨by show (250 + 8 * y3.toInt.toNat) + 0 ≤ 600000; omega, by show (5300 + 24 * y3.toInt.toNat) + 0 ≤ 7302250; omega⟩ rfl (Nat.le_of_ble_eq_true rfl) dL_law_975 ?_
          rintro _ τ790 ⟨x793, rfl, i791, f792, b794⟩
          have r797 : Rel τ790 := rτ.call f792 (by decide) (by decide)
          show MW p l e _ s m _ below meth c _ 4 G (250 + 8 * y3.toInt.toNat) (5300 + 24 * y3.toInt.toNat) 978 [some (.ref b), some (.ref (G.1 0 0)), some (.ref (G.1 22 0)), some (.int y3)] [.int x793] τ790
          refine m_pop C dL_law_978 rfl ?_
          refine m_aload_n C dL_law_979 rfl rfl ?_
          refine m_aload_n C dL_law_980 rfl rfl ?_
          refine m_iload_n C dL_law_981 rfl rfl ?_
          refine m_iconst (v := 1) C dL_law_982 (by decide) ?_
          refine m_iadd C dL_law_983 ?_
          refine m_topi (fun x798 ex798 => ?_)
          have tx798 : x798.toInt = y3.toInt + 1 := by rw [ex798, ti_addv b8 kc_1 (by decide), kt_1]
          have b799 : IV x798 1 3067 := by rw [ex798]; exact iv_add b8 kc_1 (by decide)
          refine m_sld C hX hbl hbA ⟨by omega, by omega⟩ dL_law_984 ?_
          refine m_eqs (w := x789) (by rw [ex789, show x798.toInt.toNat = x787.toInt.toNat by omega]) ?_
          refine m_callV (n := 1) (ci := 11) (st := []) C (c_X12_trace l G τ790 (x789) i791 ) (by decide) (by decide) rfl rfl rfl q5_213 q5_210 q5_211 q5_212 q1_7 (by decide +kernel) rfl (by decide) ⟨by show (250 + 8 * y3.toInt.toNat) + 0 ≤ 600000; omega, by show (5300 + 24 * y3.toInt.toNat) + 0 ≤ 7302250; omega⟩ rfl (Nat.le_of_ble_eq_true rfl) dL_law_985 ?_
          rintro _ τ800 ⟨x803, rfl, i801, f802, b804⟩
          have r807 : Rel τ800 := r797.call f802 (by decide) (by decide)
          show MW p l e _ s m _ below meth c _ 4 G (250 + 8 * y3.toInt.toNat) (5300 + 24 * y3.toInt.toNat) 988 [some (.ref b), some (.ref (G.1 0 0)), some (.ref (G.1 22 0)), some (.int y3)] [.int x803] τ800
          refine m_pop C dL_law_988 rfl ?_
          refine m_goto (tgt := 1028) C dL_law_989 (by decide) ?_
          obtain ⟨x808, ex808⟩ : ∃ y : Int32, y = y3 + 6 := ⟨_, rfl⟩
          have tx808 : x808.toInt = y3.toInt + 6 := by rw [ex808, ti_addv b8 kc_6 (by decide), kt_6]
          have b809 : IV x808 6 3072 := by rw [ex808]; exact iv_add b8 kc_6 (by decide)
          refine m_iinc (v := x808) (L1 := [some (.ref b), some (.ref (G.1 0 0)), some (.ref (G.1 22 0)), some (.int x808)]) C dL_law_1028 rfl (by rw [ex808]; rfl) (by decide) rfl rfl ?_
          refine m_goto (tgt := 18) C dL_law_1031 (by decide) ?_
          refine m_widen (c2 := 250 + 8 * x808.toInt.toNat) (s2 := 5300 + 24 * x808.toInt.toNat) (by omega) (by omega) ?_
          exact ih18 τ800 x808 i801 r807 (iv_wk b809 (by decide)) (by have q := hm18; omega)
        by_cases s810 : x11.toInt = 28
        · refine m_tableIn (tgt := 992) (off := 959) C dL_law_33 (by omega) (by omega) (by rw [s810]; rfl) (by decide) ?_
          have b811 : IV x11 28 28 := ⟨by omega, by omega⟩
          refine m_aload_n C dL_law_992 rfl rfl ?_
          refine m_aload_n C dL_law_993 rfl rfl ?_
          refine m_iload_n C dL_law_994 rfl rfl ?_
          refine m_iconst (v := 1) C dL_law_995 (by decide) ?_
          refine m_iadd C dL_law_996 ?_
          refine m_topi (fun x812 ex812 => ?_)
          have tx812 : x812.toInt = y3.toInt + 1 := by rw [ex812, ti_addv b8 kc_1 (by decide), kt_1]
          have b813 : IV x812 1 3067 := by rw [ex812]; exact iv_add b8 kc_1 (by decide)
          refine m_sld C hX hbl hbA ⟨by omega, by omega⟩ dL_law_997 ?_
          refine m_topi (fun x814 ex814 => ?_)
          refine m_callV (n := 1) (ci := 10) (st := []) C (c_X11_count l G τ (x814) iτ ) (by decide) (by decide) rfl rfl rfl q4_101 q4_98 q4_99 q4_100 q1_1 (by decide +kernel) rfl (by decide) ⟨by show (250 + 8 * y3.toInt.toNat) + 0 ≤ 600000; omega, by show (5300 + 24 * y3.toInt.toNat) + 0 ≤ 7302250; omega⟩ rfl (Nat.le_of_ble_eq_true rfl) dL_law_998 ?_
          rintro _ τ815 ⟨x818, rfl, i816, f817, b819⟩
          have r822 : Rel τ815 := rτ.call f817 (by decide) (by decide)
          show MW p l e _ s m _ below meth c _ 4 G (250 + 8 * y3.toInt.toNat) (5300 + 24 * y3.toInt.toNat) 1001 [some (.ref b), some (.ref (G.1 0 0)), some (.ref (G.1 22 0)), some (.int y3)] [.int x818] τ815
          refine m_pop C dL_law_1001 rfl ?_
          refine m_aload_n C dL_law_1002 rfl rfl ?_
          refine m_aload_n C dL_law_1003 rfl rfl ?_
          refine m_iload_n C dL_law_1004 rfl rfl ?_
          refine m_iconst (v := 1) C dL_law_1005 (by decide) ?_
          refine m_iadd C dL_law_1006 ?_
          refine m_topi (fun x823 ex823 => ?_)
          have tx823 : x823.toInt = y3.toInt + 1 := by rw [ex823, ti_addv b8 kc_1 (by decide), kt_1]
          have b824 : IV x823 1 3067 := by rw [ex823]; exact iv_add b8 kc_1 (by decide)
          refine m_sld C hX hbl hbA ⟨by omega, by omega⟩ dL_law_1007 ?_
          refine m_eqs (w := x814) (by rw [ex814, show x823.toInt.toNat = x812.toInt.toNat by omega]) ?_
          refine m_callV (n := 1) (ci := 11) (st := []) C (c_X12_count l G τ815 (x814) i816 ) (by decide) (by decide) rfl rfl rfl q5_217 q5_214 q5_215 q5_216 q1_7 (by decide +kernel) rfl (by decide) ⟨by show (250 + 8 * y3.toInt.toNat) + 0 ≤ 600000; omega, by show (5300 + 24 * y3.toInt.toNat) + 0 ≤ 7302250; omega⟩ rfl (Nat.le_of_ble_eq_true rfl) dL_law_1008 ?_
          rintro _ τ825 ⟨x828, rfl, i826, f827, b829⟩
          have r832 : Rel τ825 := r822.call f827 (by decide) (by decide)
          show MW p l e _ s m _ below meth c _ 4 G (250 + 8 * y3.toInt.toNat) (5300 + 24 * y3.toInt.toNat) 1011 [some (.ref b), some (.ref (G.1 0 0)), some (.ref (G.1 22 0)), some (.int y3)] [.int x828] τ825
          refine m_pop C dL_law_1011 rfl ?_
          refine m_goto (tgt := 1028) C dL_law_1012 (by decide) ?_
          obtain ⟨x833, ex833⟩ : ∃ y : Int32, y = y3 + 6 := ⟨_, rfl⟩
          have tx833 : x833.toInt = y3.toInt + 6 := by rw [ex833, ti_addv b8 kc_6 (by decide), kt_6]
          have b834 : IV x833 6 3072 := by rw [ex833]; exact iv_add b8 kc_6 (by decide)
          refine m_iinc (v := x833) (L1 := [some (.ref b), some (.ref (G.1 0 0)), some (.ref (G.1 22 0)), some (.int x833)]) C dL_law_1028 rfl (by rw [ex833]; rfl) (by decide) rfl rfl ?_
          refine m_goto (tgt := 18) C dL_law_1031 (by decide) ?_
          refine m_widen (c2 := 250 + 8 * x833.toInt.toNat) (s2 := 5300 + 24 * x833.toInt.toNat) (by omega) (by omega) ?_
          exact ih18 τ825 x833 i826 r832 (iv_wk b834 (by decide)) (by have q := hm18; omega)
        by_cases s835 : x11.toInt = 29
        · refine m_tableIn (tgt := 1015) (off := 982) C dL_law_33 (by omega) (by omega) (by rw [s835]; rfl) (by decide) ?_
          have b836 : IV x11 29 29 := ⟨by omega, by omega⟩
          refine m_aload_n C dL_law_1015 rfl rfl ?_
          refine m_callV (n := 0) (ci := 10) (st := []) C (c_X11_status l G τ  iτ ) (by decide) (by decide) rfl rfl rfl q4_109 q4_106 q4_107 q4_108 q1_1 (by decide +kernel) rfl (by decide) ⟨by show (250 + 8 * y3.toInt.toNat) + 0 ≤ 600000; omega, by show (5300 + 24 * y3.toInt.toNat) + 0 ≤ 7302250; omega⟩ rfl (Nat.le_of_ble_eq_true rfl) dL_law_1016 ?_
          rintro _ τ837 ⟨x840, rfl, i838, f839, b841⟩
          have r844 : Rel τ837 := rτ.call f839 (by decide) (by decide)
          show MW p l e _ s m _ below meth c _ 4 G (250 + 8 * y3.toInt.toNat) (5300 + 24 * y3.toInt.toNat) 1019 [some (.ref b), some (.ref (G.1 0 0)), some (.ref (G.1 22 0)), some (.int y3)] [.int x840] τ837
          refine m_pop C dL_law_1019 rfl ?_
          refine m_aload_n C dL_law_1020 rfl rfl ?_
          refine m_callV (n := 0) (ci := 11) (st := []) C (c_X12_status l G τ837  i838 ) (by decide) (by decide) rfl rfl rfl q5_221 q5_218 q5_219 q5_220 q1_7 (by decide +kernel) rfl (by decide) ⟨by show (250 + 8 * y3.toInt.toNat) + 0 ≤ 600000; omega, by show (5300 + 24 * y3.toInt.toNat) + 0 ≤ 7302250; omega⟩ rfl (Nat.le_of_ble_eq_true rfl) dL_law_1021 ?_
          rintro _ τ845 ⟨x848, rfl, i846, f847, b849⟩
          have r852 : Rel τ845 := r844.call f847 (by decide) (by decide)
          show MW p l e _ s m _ below meth c _ 4 G (250 + 8 * y3.toInt.toNat) (5300 + 24 * y3.toInt.toNat) 1024 [some (.ref b), some (.ref (G.1 0 0)), some (.ref (G.1 22 0)), some (.int y3)] [.int x848] τ845
          refine m_pop C dL_law_1024 rfl ?_
          refine m_goto (tgt := 1028) C dL_law_1025 (by decide) ?_
          obtain ⟨x853, ex853⟩ : ∃ y : Int32, y = y3 + 6 := ⟨_, rfl⟩
          have tx853 : x853.toInt = y3.toInt + 6 := by rw [ex853, ti_addv b8 kc_6 (by decide), kt_6]
          have b854 : IV x853 6 3072 := by rw [ex853]; exact iv_add b8 kc_6 (by decide)
          refine m_iinc (v := x853) (L1 := [some (.ref b), some (.ref (G.1 0 0)), some (.ref (G.1 22 0)), some (.int x853)]) C dL_law_1028 rfl (by rw [ex853]; rfl) (by decide) rfl rfl ?_
          refine m_goto (tgt := 18) C dL_law_1031 (by decide) ?_
          refine m_widen (c2 := 250 + 8 * x853.toInt.toNat) (s2 := 5300 + 24 * x853.toInt.toNat) (by omega) (by omega) ?_
          exact ih18 τ845 x853 i846 r852 (iv_wk b854 (by decide)) (by have q := hm18; omega)
        exact absurd s13 (by omega)
end LAW
