def Hid (P : Prop) : Prop := P
theorem Hid.mk {P : Prop} (h : P) : Hid P := h
theorem RT.faultB {σ τ : Sg} {r1 r2 : Int32} (h : RT σ) (f1 : Fr MS_X11_faultT AS_X11_faultT σ τ) (hC : r1.toInt = (gV σ 12 0 2).toInt) (hM : r2.toInt = (gV τ 22 0 7).toInt) : r1.toInt = r2.toInt := by
  rw [hC, hM, f1.1 22 0 7 (by decide) (by decide)]
  exact h.2
section LAW
set_option maxHeartbeats 8000000 in
set_option maxRecDepth 100000 in
theorem law_loop {p : Program} {e : Env} {s : State} {m : MethodId} {below : List Frame} {meth : Method} {c : Code} (l : Launch) {b L : Nat} {xs : Nat → Int32} (hL : L ≤ 3072) (C0 : lw_At p s m meth c b L xs) (G : Gt) (hG0 : G.2.2.2.1 = s.heap.size) : ∀ (n : Nat) (τ : Sg) (y3 : Int32), Inv τ → Rel τ → RT τ → IV y3 0 3078 → (3078 - y3.toInt).toNat < n → MW p l e room_1 s m #[Value.ref b] below meth c (lw_Z below #[Value.ref b] s) 4 G (250 + 8 * y3.toInt.toNat) (5300 + 24 * y3.toInt.toNat) 18 [some (.ref b), some (.ref (G.1 0 0)), some (.ref (G.1 22 0)), some (.int y3)] [] τ := by
  obtain ⟨hx, hb, hr, hml, hown, hts, hX, hbl, hlk, hgv⟩ := C0
  have C : Cx p s m #[Value.ref b] c cL_law 4 "LeanTowerLaw" := ⟨hx, hb, hml, hown, fun w hw => hts w (List.mem_filter.mp hw).1⟩
  have hbA : ¬ aG G b := fun q => by have q2 : G.2.2.2.1 ≤ b := q; omega
  have hL31 : L < 2 ^ 31 := by omega
  have k0 : (0 : Int32).toInt = 0 := by decide
  have k1 : (1 : Int32).toInt = 1 := by decide
  intro n
  induction n with
  | zero => intro τ y3 iτ rτ tτ b_y3 hm; exact absurd hm (Nat.not_lt_zero _)
  | succ n ih18 =>
      intro τ y3 iτ rτ tτ b_y3 hm18
      refine m_iload_n C dL_law_18 rfl rfl ?_
      refine m_aload_n C dL_law_19 rfl rfl ?_
      refine m_slen C hX hbl hbA hL31 dL_law_20 (fun x1 tx1 => ?_)
      have b2 : IV x1 0 3072 := ⟨by omega, by omega⟩
      refine m_bipush (v := 6) C dL_law_21 (by decide) ?_
      refine m_isub C dL_law_23 ?_
      refine m_topi (fun x3 ex3 => ?_)
      have tx3 : x3.toInt = x1.toInt - 6 := by rw [ex3, ti_subv b2 kc_6 (by decide), kt_6]
      have b4 : IV x3 (-6) 3066 := by rw [ex3]; exact iv_sub b2 kc_6 (by decide)
      refine m_icmp_gt (tgt := 1034) C dL_law_24 (by decide) (fun c5 => ?_) (fun c5 => ?_)
      · have f6 : x3.toInt < y3.toInt := by
          have q : _ := c5
          simp only [ti_nle, ti_nlt, ti_le, ti_lt, ti_eq, ti_ne, Classical.not_not] at q
          omega
        refine m_iconst (v := 1) C dL_law_1034 (by decide) ?_
        exact m_law1 C hG0 hr hlk ⟨by omega, by omega⟩ dL_law_1035
      · have f7 : y3.toInt ≤ x3.toInt := by
          have q : _ := c5
          simp only [ti_nle, ti_nlt, ti_le, ti_lt, ti_eq, ti_ne, Classical.not_not] at q
          omega
        have b8 : IV y3 0 3066 := ⟨by have q1 := b_y3; have q2 := b4; omega, by have q1 := b_y3; have q2 := b4; omega⟩
        have b9 : IV x3 0 3066 := ⟨by have q1 := b_y3; have q2 := b4; omega, by have q1 := b_y3; have q2 := b4; omega⟩
        refine m_aload_n C dL_law_27 rfl rfl ?_
        refine m_iload_n C dL_law_28 rfl rfl ?_
        refine m_sld C hX hbl hbA ⟨by omega, by omega⟩ dL_law_29 ?_
        refine m_topi (fun x10 ex10 => ?_)
        refine m_bipush (v := 31) C dL_law_30 (by decide) ?_
        refine m_iand C dL_law_32 ?_
        refine m_topi (fun x11 ex11 => ?_)
        have b12 : IV x11 0 31 := by rw [ex11]; exact iv_and_r kc_31 (by decide)
        by_cases s13 : x11.toInt < 0 ∨ 29 < x11.toInt
        · refine m_tableOut (tgt := 1028) C dL_law_33 s13 (by decide) ?_
          obtain ⟨x14, ex14⟩ : ∃ y : Int32, y = y3 + 6 := ⟨_, rfl⟩
          have tx14 : x14.toInt = y3.toInt + 6 := by rw [ex14, ti_addv b8 kc_6 (by decide), kt_6]
          have b15 : IV x14 6 3072 := by rw [ex14]; exact iv_add b8 kc_6 (by decide)
          refine m_iinc (v := x14) (L1 := [some (.ref b), some (.ref (G.1 0 0)), some (.ref (G.1 22 0)), some (.int x14)]) C dL_law_1028 rfl (by rw [ex14]; rfl) (by decide) rfl rfl ?_
          refine m_goto (tgt := 18) C dL_law_1031 (by decide) ?_
          refine m_widen (c2 := 250 + 8 * x14.toInt.toNat) (s2 := 5300 + 24 * x14.toInt.toNat) (by omega) (by omega) ?_
          exact ih18 τ x14 iτ rτ tτ (iv_wk b15 (by decide)) (by have q := hm18; omega)
        by_cases s16 : x11.toInt = 0
        · refine m_tableIn (tgt := 168) (off := 135) C dL_law_33 (by omega) (by omega) (by rw [s16]; rfl) (by decide) ?_
          have b17 : IV x11 0 0 := ⟨by omega, by omega⟩
          refine m_aload_n C dL_law_168 rfl rfl ?_
          refine m_aload_n C dL_law_169 rfl rfl ?_
          refine m_iload_n C dL_law_170 rfl rfl ?_
          refine m_iconst (v := 1) C dL_law_171 (by decide) ?_
          refine m_iadd C dL_law_172 ?_
          refine m_topi (fun x18 ex18 => ?_)
          have tx18 : x18.toInt = y3.toInt + 1 := by rw [ex18, ti_addv b8 kc_1 (by decide), kt_1]
          have b19 : IV x18 1 3067 := by rw [ex18]; exact iv_add b8 kc_1 (by decide)
          refine m_sld C hX hbl hbA ⟨by omega, by omega⟩ dL_law_173 ?_
          refine m_topi (fun x20 ex20 => ?_)
          refine m_aload_n C dL_law_174 rfl rfl ?_
          refine m_iload_n C dL_law_175 rfl rfl ?_
          refine m_iconst (v := 2) C dL_law_176 (by decide) ?_
          refine m_iadd C dL_law_177 ?_
          refine m_topi (fun x21 ex21 => ?_)
          have tx21 : x21.toInt = y3.toInt + 2 := by rw [ex21, ti_addv b8 kc_2 (by decide), kt_2]
          have b22 : IV x21 2 3068 := by rw [ex21]; exact iv_add b8 kc_2 (by decide)
          refine m_sld C hX hbl hbA ⟨by omega, by omega⟩ dL_law_178 ?_
          refine m_topi (fun x23 ex23 => ?_)
          refine m_aload_n C dL_law_179 rfl rfl ?_
          refine m_iload_n C dL_law_180 rfl rfl ?_
          refine m_iconst (v := 3) C dL_law_181 (by decide) ?_
          refine m_iadd C dL_law_182 ?_
          refine m_topi (fun x24 ex24 => ?_)
          have tx24 : x24.toInt = y3.toInt + 3 := by rw [ex24, ti_addv b8 kc_3 (by decide), kt_3]
          have b25 : IV x24 3 3069 := by rw [ex24]; exact iv_add b8 kc_3 (by decide)
          refine m_sld C hX hbl hbA ⟨by omega, by omega⟩ dL_law_183 ?_
          refine m_topi (fun x26 ex26 => ?_)
          refine m_callV (n := 3) (ci := 10) (st := []) C (c_X11_rowE l G τ (x20) (x23) (x26) iτ ) (by decide) (by decide) rfl rfl rfl q1_229 q1_226 q1_227 q1_228 q1_1 (by decide +kernel) rfl (by decide) ⟨by show (250 + 8 * y3.toInt.toNat) + 0 ≤ 600000; omega, by show (5300 + 24 * y3.toInt.toNat) + 0 ≤ 7302250; omega⟩ rfl (Nat.le_of_ble_eq_true rfl) dL_law_184 ?_
          rintro _ τ27 ⟨x30, rfl, i28, f29, b31, h33⟩
          have z34 := Hid.mk h33
          clear h33
          have r35 : RT τ27 := tτ.call f29 (by decide) (by decide)
          show MW p l e _ s m _ below meth c _ 4 G (250 + 8 * y3.toInt.toNat) (5300 + 24 * y3.toInt.toNat) 187 [some (.ref b), some (.ref (G.1 0 0)), some (.ref (G.1 22 0)), some (.int y3)] [.int x30] τ27
          refine m_pop C dL_law_187 rfl ?_
          refine m_aload_n C dL_law_188 rfl rfl ?_
          refine m_aload_n C dL_law_189 rfl rfl ?_
          refine m_iload_n C dL_law_190 rfl rfl ?_
          refine m_iconst (v := 1) C dL_law_191 (by decide) ?_
          refine m_iadd C dL_law_192 ?_
          refine m_topi (fun x36 ex36 => ?_)
          have tx36 : x36.toInt = y3.toInt + 1 := by rw [ex36, ti_addv b8 kc_1 (by decide), kt_1]
          have b37 : IV x36 1 3067 := by rw [ex36]; exact iv_add b8 kc_1 (by decide)
          refine m_sld C hX hbl hbA ⟨by omega, by omega⟩ dL_law_193 ?_
          refine m_eqs (w := x20) (by rw [ex20, show x36.toInt.toNat = x18.toInt.toNat by omega]) ?_
          refine m_aload_n C dL_law_194 rfl rfl ?_
          refine m_iload_n C dL_law_195 rfl rfl ?_
          refine m_iconst (v := 2) C dL_law_196 (by decide) ?_
          refine m_iadd C dL_law_197 ?_
          refine m_topi (fun x38 ex38 => ?_)
          have tx38 : x38.toInt = y3.toInt + 2 := by rw [ex38, ti_addv b8 kc_2 (by decide), kt_2]
          have b39 : IV x38 2 3068 := by rw [ex38]; exact iv_add b8 kc_2 (by decide)
          refine m_sld C hX hbl hbA ⟨by omega, by omega⟩ dL_law_198 ?_
          refine m_eqs (w := x23) (by rw [ex23, show x38.toInt.toNat = x21.toInt.toNat by omega]) ?_
          refine m_aload_n C dL_law_199 rfl rfl ?_
          refine m_iload_n C dL_law_200 rfl rfl ?_
          refine m_iconst (v := 3) C dL_law_201 (by decide) ?_
          refine m_iadd C dL_law_202 ?_
          refine m_topi (fun x40 ex40 => ?_)
          have tx40 : x40.toInt = y3.toInt + 3 := by rw [ex40, ti_addv b8 kc_3 (by decide), kt_3]
          have b41 : IV x40 3 3069 := by rw [ex40]; exact iv_add b8 kc_3 (by decide)
          refine m_sld C hX hbl hbA ⟨by omega, by omega⟩ dL_law_203 ?_
          refine m_eqs (w := x26) (by rw [ex26, show x40.toInt.toNat = x24.toInt.toNat by omega]) ?_
          refine m_callV (n := 3) (ci := 11) (st := []) C (c_X12_rowE l G τ27 (x20) (x23) (x26) i28 ) (by decide) (by decide) rfl rfl rfl q4_183 q4_180 q4_181 q4_182 q1_7 (by decide +kernel) rfl (by decide) ⟨by show (250 + 8 * y3.toInt.toNat) + 0 ≤ 600000; omega, by show (5300 + 24 * y3.toInt.toNat) + 0 ≤ 7302250; omega⟩ rfl (Nat.le_of_ble_eq_true rfl) dL_law_204 ?_
          rintro _ τ42 ⟨x45, rfl, i43, f44, b46, h48⟩
          have g49 := Rel.rowB rτ f29 f44 z34 h48
          clear h48 z34
          have r50 : Rel τ42 := g49.1
          have q51 := g49.2
          have r52 : RT τ42 := r35.call f44 (by decide) (by decide)
          show MW p l e _ s m _ below meth c _ 4 G (250 + 8 * y3.toInt.toNat) (5300 + 24 * y3.toInt.toNat) 207 [some (.ref b), some (.ref (G.1 0 0)), some (.ref (G.1 22 0)), some (.int y3)] [.int x45] τ42
          refine m_pop C dL_law_207 rfl ?_
          refine m_goto (tgt := 1028) C dL_law_208 (by decide) ?_
          obtain ⟨x53, ex53⟩ : ∃ y : Int32, y = y3 + 6 := ⟨_, rfl⟩
          have tx53 : x53.toInt = y3.toInt + 6 := by rw [ex53, ti_addv b8 kc_6 (by decide), kt_6]
          have b54 : IV x53 6 3072 := by rw [ex53]; exact iv_add b8 kc_6 (by decide)
          refine m_iinc (v := x53) (L1 := [some (.ref b), some (.ref (G.1 0 0)), some (.ref (G.1 22 0)), some (.int x53)]) C dL_law_1028 rfl (by rw [ex53]; rfl) (by decide) rfl rfl ?_
          refine m_goto (tgt := 18) C dL_law_1031 (by decide) ?_
          refine m_widen (c2 := 250 + 8 * x53.toInt.toNat) (s2 := 5300 + 24 * x53.toInt.toNat) (by omega) (by omega) ?_
          exact ih18 τ42 x53 i43 r50 r52 (iv_wk b54 (by decide)) (by have q := hm18; omega)
        by_cases s55 : x11.toInt = 1
        · refine m_tableIn (tgt := 211) (off := 178) C dL_law_33 (by omega) (by omega) (by rw [s55]; rfl) (by decide) ?_
          have b56 : IV x11 1 1 := ⟨by omega, by omega⟩
          refine m_aload_n C dL_law_211 rfl rfl ?_
          refine m_aload_n C dL_law_212 rfl rfl ?_
          refine m_iload_n C dL_law_213 rfl rfl ?_
          refine m_iconst (v := 1) C dL_law_214 (by decide) ?_
          refine m_iadd C dL_law_215 ?_
          refine m_topi (fun x57 ex57 => ?_)
          have tx57 : x57.toInt = y3.toInt + 1 := by rw [ex57, ti_addv b8 kc_1 (by decide), kt_1]
          have b58 : IV x57 1 3067 := by rw [ex57]; exact iv_add b8 kc_1 (by decide)
          refine m_sld C hX hbl hbA ⟨by omega, by omega⟩ dL_law_216 ?_
          refine m_topi (fun x59 ex59 => ?_)
          refine m_aload_n C dL_law_217 rfl rfl ?_
          refine m_iload_n C dL_law_218 rfl rfl ?_
          refine m_iconst (v := 2) C dL_law_219 (by decide) ?_
          refine m_iadd C dL_law_220 ?_
          refine m_topi (fun x60 ex60 => ?_)
          have tx60 : x60.toInt = y3.toInt + 2 := by rw [ex60, ti_addv b8 kc_2 (by decide), kt_2]
          have b61 : IV x60 2 3068 := by rw [ex60]; exact iv_add b8 kc_2 (by decide)
          refine m_sld C hX hbl hbA ⟨by omega, by omega⟩ dL_law_221 ?_
          refine m_topi (fun x62 ex62 => ?_)
          refine m_aload_n C dL_law_222 rfl rfl ?_
          refine m_iload_n C dL_law_223 rfl rfl ?_
          refine m_iconst (v := 3) C dL_law_224 (by decide) ?_
          refine m_iadd C dL_law_225 ?_
          refine m_topi (fun x63 ex63 => ?_)
          have tx63 : x63.toInt = y3.toInt + 3 := by rw [ex63, ti_addv b8 kc_3 (by decide), kt_3]
          have b64 : IV x63 3 3069 := by rw [ex63]; exact iv_add b8 kc_3 (by decide)
          refine m_sld C hX hbl hbA ⟨by omega, by omega⟩ dL_law_226 ?_
          refine m_topi (fun x65 ex65 => ?_)
          refine m_callV (n := 3) (ci := 10) (st := []) C (c_X11_setE l G τ (x59) (x62) (x65) iτ ) (by decide) (by decide) rfl rfl rfl q2_11 q2_8 q2_9 q2_10 q1_1 (by decide +kernel) rfl (by decide) ⟨by show (250 + 8 * y3.toInt.toNat) + 0 ≤ 600000; omega, by show (5300 + 24 * y3.toInt.toNat) + 0 ≤ 7302250; omega⟩ rfl (Nat.le_of_ble_eq_true rfl) dL_law_227 ?_
          rintro _ τ66 ⟨x69, rfl, i67, f68, b70, h72⟩
          have z73 := Hid.mk h72
          clear h72
          have r74 : Rel τ66 := rτ.call f68 (by decide) (by decide)
          have r75 : RT τ66 := tτ.call f68 (by decide) (by decide)
          show MW p l e _ s m _ below meth c _ 4 G (250 + 8 * y3.toInt.toNat) (5300 + 24 * y3.toInt.toNat) 230 [some (.ref b), some (.ref (G.1 0 0)), some (.ref (G.1 22 0)), some (.int y3)] [.int x69] τ66
          refine m_pop C dL_law_230 rfl ?_
          refine m_aload_n C dL_law_231 rfl rfl ?_
          refine m_aload_n C dL_law_232 rfl rfl ?_
          refine m_iload_n C dL_law_233 rfl rfl ?_
          refine m_iconst (v := 1) C dL_law_234 (by decide) ?_
          refine m_iadd C dL_law_235 ?_
          refine m_topi (fun x76 ex76 => ?_)
          have tx76 : x76.toInt = y3.toInt + 1 := by rw [ex76, ti_addv b8 kc_1 (by decide), kt_1]
          have b77 : IV x76 1 3067 := by rw [ex76]; exact iv_add b8 kc_1 (by decide)
          refine m_sld C hX hbl hbA ⟨by omega, by omega⟩ dL_law_236 ?_
          refine m_eqs (w := x59) (by rw [ex59, show x76.toInt.toNat = x57.toInt.toNat by omega]) ?_
          refine m_aload_n C dL_law_237 rfl rfl ?_
          refine m_iload_n C dL_law_238 rfl rfl ?_
          refine m_iconst (v := 2) C dL_law_239 (by decide) ?_
          refine m_iadd C dL_law_240 ?_
          refine m_topi (fun x78 ex78 => ?_)
          have tx78 : x78.toInt = y3.toInt + 2 := by rw [ex78, ti_addv b8 kc_2 (by decide), kt_2]
          have b79 : IV x78 2 3068 := by rw [ex78]; exact iv_add b8 kc_2 (by decide)
          refine m_sld C hX hbl hbA ⟨by omega, by omega⟩ dL_law_241 ?_
          refine m_eqs (w := x62) (by rw [ex62, show x78.toInt.toNat = x60.toInt.toNat by omega]) ?_
          refine m_aload_n C dL_law_242 rfl rfl ?_
          refine m_iload_n C dL_law_243 rfl rfl ?_
          refine m_iconst (v := 3) C dL_law_244 (by decide) ?_
          refine m_iadd C dL_law_245 ?_
          refine m_topi (fun x80 ex80 => ?_)
          have tx80 : x80.toInt = y3.toInt + 3 := by rw [ex80, ti_addv b8 kc_3 (by decide), kt_3]
          have b81 : IV x80 3 3069 := by rw [ex80]; exact iv_add b8 kc_3 (by decide)
          refine m_sld C hX hbl hbA ⟨by omega, by omega⟩ dL_law_246 ?_
          refine m_eqs (w := x65) (by rw [ex65, show x80.toInt.toNat = x63.toInt.toNat by omega]) ?_
          refine m_callV (n := 3) (ci := 11) (st := []) C (c_X12_setE l G τ66 (x59) (x62) (x65) i67 ) (by decide) (by decide) rfl rfl rfl q4_205 q4_202 q4_203 q4_204 q1_7 (by decide +kernel) rfl (by decide) ⟨by show (250 + 8 * y3.toInt.toNat) + 0 ≤ 600000; omega, by show (5300 + 24 * y3.toInt.toNat) + 0 ≤ 7302250; omega⟩ rfl (Nat.le_of_ble_eq_true rfl) dL_law_247 ?_
          rintro _ τ82 ⟨x85, rfl, i83, f84, b86, h88⟩
          have g89 := Rel.setB rτ f68 f84 z73 h88
          clear h88 z73
          have r90 : Rel τ82 := r74.call f84 (by decide) (by decide)
          have r91 : RT τ82 := r75.call f84 (by decide) (by decide)
          show MW p l e _ s m _ below meth c _ 4 G (250 + 8 * y3.toInt.toNat) (5300 + 24 * y3.toInt.toNat) 250 [some (.ref b), some (.ref (G.1 0 0)), some (.ref (G.1 22 0)), some (.int y3)] [.int x85] τ82
          refine m_pop C dL_law_250 rfl ?_
          refine m_goto (tgt := 1028) C dL_law_251 (by decide) ?_
          obtain ⟨x92, ex92⟩ : ∃ y : Int32, y = y3 + 6 := ⟨_, rfl⟩
          have tx92 : x92.toInt = y3.toInt + 6 := by rw [ex92, ti_addv b8 kc_6 (by decide), kt_6]
          have b93 : IV x92 6 3072 := by rw [ex92]; exact iv_add b8 kc_6 (by decide)
          refine m_iinc (v := x92) (L1 := [some (.ref b), some (.ref (G.1 0 0)), some (.ref (G.1 22 0)), some (.int x92)]) C dL_law_1028 rfl (by rw [ex92]; rfl) (by decide) rfl rfl ?_
          refine m_goto (tgt := 18) C dL_law_1031 (by decide) ?_
          refine m_widen (c2 := 250 + 8 * x92.toInt.toNat) (s2 := 5300 + 24 * x92.toInt.toNat) (by omega) (by omega) ?_
          exact ih18 τ82 x92 i83 r90 r91 (iv_wk b93 (by decide)) (by have q := hm18; omega)
        by_cases s94 : x11.toInt = 2
        · refine m_tableIn (tgt := 254) (off := 221) C dL_law_33 (by omega) (by omega) (by rw [s94]; rfl) (by decide) ?_
          have b95 : IV x11 2 2 := ⟨by omega, by omega⟩
          refine m_aload_n C dL_law_254 rfl rfl ?_
          refine m_aload_n C dL_law_255 rfl rfl ?_
          refine m_iload_n C dL_law_256 rfl rfl ?_
          refine m_iconst (v := 1) C dL_law_257 (by decide) ?_
          refine m_iadd C dL_law_258 ?_
          refine m_topi (fun x96 ex96 => ?_)
          have tx96 : x96.toInt = y3.toInt + 1 := by rw [ex96, ti_addv b8 kc_1 (by decide), kt_1]
          have b97 : IV x96 1 3067 := by rw [ex96]; exact iv_add b8 kc_1 (by decide)
          refine m_sld C hX hbl hbA ⟨by omega, by omega⟩ dL_law_259 ?_
          refine m_topi (fun x98 ex98 => ?_)
          refine m_aload_n C dL_law_260 rfl rfl ?_
          refine m_iload_n C dL_law_261 rfl rfl ?_
          refine m_iconst (v := 2) C dL_law_262 (by decide) ?_
          refine m_iadd C dL_law_263 ?_
          refine m_topi (fun x99 ex99 => ?_)
          have tx99 : x99.toInt = y3.toInt + 2 := by rw [ex99, ti_addv b8 kc_2 (by decide), kt_2]
          have b100 : IV x99 2 3068 := by rw [ex99]; exact iv_add b8 kc_2 (by decide)
          refine m_sld C hX hbl hbA ⟨by omega, by omega⟩ dL_law_264 ?_
          refine m_topi (fun x101 ex101 => ?_)
          refine m_aload_n C dL_law_265 rfl rfl ?_
          refine m_iload_n C dL_law_266 rfl rfl ?_
          refine m_iconst (v := 3) C dL_law_267 (by decide) ?_
          refine m_iadd C dL_law_268 ?_
          refine m_topi (fun x102 ex102 => ?_)
          have tx102 : x102.toInt = y3.toInt + 3 := by rw [ex102, ti_addv b8 kc_3 (by decide), kt_3]
          have b103 : IV x102 3 3069 := by rw [ex102]; exact iv_add b8 kc_3 (by decide)
          refine m_sld C hX hbl hbA ⟨by omega, by omega⟩ dL_law_269 ?_
          refine m_topi (fun x104 ex104 => ?_)
          refine m_aload_n C dL_law_270 rfl rfl ?_
          refine m_iload_n C dL_law_271 rfl rfl ?_
          refine m_iconst (v := 4) C dL_law_272 (by decide) ?_
          refine m_iadd C dL_law_273 ?_
          refine m_topi (fun x105 ex105 => ?_)
          have tx105 : x105.toInt = y3.toInt + 4 := by rw [ex105, ti_addv b8 kc_4 (by decide), kt_4]
          have b106 : IV x105 4 3070 := by rw [ex105]; exact iv_add b8 kc_4 (by decide)
          refine m_sld C hX hbl hbA ⟨by omega, by omega⟩ dL_law_274 ?_
          refine m_topi (fun x107 ex107 => ?_)
          refine m_aload_n C dL_law_275 rfl rfl ?_
          refine m_iload_n C dL_law_276 rfl rfl ?_
          refine m_iconst (v := 5) C dL_law_277 (by decide) ?_
          refine m_iadd C dL_law_278 ?_
          refine m_topi (fun x108 ex108 => ?_)
          have tx108 : x108.toInt = y3.toInt + 5 := by rw [ex108, ti_addv b8 kc_5 (by decide), kt_5]
          have b109 : IV x108 5 3071 := by rw [ex108]; exact iv_add b8 kc_5 (by decide)
          refine m_sld C hX hbl hbA ⟨by omega, by omega⟩ dL_law_279 ?_
          refine m_topi (fun x110 ex110 => ?_)
          refine m_callV (n := 5) (ci := 10) (st := []) C (c_X11_copyE l G τ (x98) (x101) (x104) (x107) (x110) iτ ) (by decide) (by decide) rfl rfl rfl q2_23 q2_20 q2_21 q2_22 q1_1 (by decide +kernel) rfl (by decide) ⟨by show (250 + 8 * y3.toInt.toNat) + 0 ≤ 600000; omega, by show (5300 + 24 * y3.toInt.toNat) + 0 ≤ 7302250; omega⟩ rfl (Nat.le_of_ble_eq_true rfl) dL_law_280 ?_
          rintro _ τ111 ⟨x114, rfl, i112, f113, b115, h117⟩
          have z118 := Hid.mk h117
          clear h117
          have r119 : Rel τ111 := rτ.call f113 (by decide) (by decide)
          have r120 : RT τ111 := tτ.call f113 (by decide) (by decide)
          show MW p l e _ s m _ below meth c _ 4 G (250 + 8 * y3.toInt.toNat) (5300 + 24 * y3.toInt.toNat) 283 [some (.ref b), some (.ref (G.1 0 0)), some (.ref (G.1 22 0)), some (.int y3)] [.int x114] τ111
          refine m_pop C dL_law_283 rfl ?_
          refine m_aload_n C dL_law_284 rfl rfl ?_
          refine m_aload_n C dL_law_285 rfl rfl ?_
          refine m_iload_n C dL_law_286 rfl rfl ?_
          refine m_iconst (v := 1) C dL_law_287 (by decide) ?_
          refine m_iadd C dL_law_288 ?_
          refine m_topi (fun x121 ex121 => ?_)
          have tx121 : x121.toInt = y3.toInt + 1 := by rw [ex121, ti_addv b8 kc_1 (by decide), kt_1]
          have b122 : IV x121 1 3067 := by rw [ex121]; exact iv_add b8 kc_1 (by decide)
          refine m_sld C hX hbl hbA ⟨by omega, by omega⟩ dL_law_289 ?_
          refine m_eqs (w := x98) (by rw [ex98, show x121.toInt.toNat = x96.toInt.toNat by omega]) ?_
          refine m_aload_n C dL_law_290 rfl rfl ?_
          refine m_iload_n C dL_law_291 rfl rfl ?_
          refine m_iconst (v := 2) C dL_law_292 (by decide) ?_
          refine m_iadd C dL_law_293 ?_
          refine m_topi (fun x123 ex123 => ?_)
          have tx123 : x123.toInt = y3.toInt + 2 := by rw [ex123, ti_addv b8 kc_2 (by decide), kt_2]
          have b124 : IV x123 2 3068 := by rw [ex123]; exact iv_add b8 kc_2 (by decide)
          refine m_sld C hX hbl hbA ⟨by omega, by omega⟩ dL_law_294 ?_
          refine m_eqs (w := x101) (by rw [ex101, show x123.toInt.toNat = x99.toInt.toNat by omega]) ?_
          refine m_aload_n C dL_law_295 rfl rfl ?_
          refine m_iload_n C dL_law_296 rfl rfl ?_
          refine m_iconst (v := 3) C dL_law_297 (by decide) ?_
          refine m_iadd C dL_law_298 ?_
          refine m_topi (fun x125 ex125 => ?_)
          have tx125 : x125.toInt = y3.toInt + 3 := by rw [ex125, ti_addv b8 kc_3 (by decide), kt_3]
          have b126 : IV x125 3 3069 := by rw [ex125]; exact iv_add b8 kc_3 (by decide)
          refine m_sld C hX hbl hbA ⟨by omega, by omega⟩ dL_law_299 ?_
          refine m_eqs (w := x104) (by rw [ex104, show x125.toInt.toNat = x102.toInt.toNat by omega]) ?_
          refine m_aload_n C dL_law_300 rfl rfl ?_
          refine m_iload_n C dL_law_301 rfl rfl ?_
          refine m_iconst (v := 4) C dL_law_302 (by decide) ?_
          refine m_iadd C dL_law_303 ?_
          refine m_topi (fun x127 ex127 => ?_)
          have tx127 : x127.toInt = y3.toInt + 4 := by rw [ex127, ti_addv b8 kc_4 (by decide), kt_4]
          have b128 : IV x127 4 3070 := by rw [ex127]; exact iv_add b8 kc_4 (by decide)
          refine m_sld C hX hbl hbA ⟨by omega, by omega⟩ dL_law_304 ?_
          refine m_eqs (w := x107) (by rw [ex107, show x127.toInt.toNat = x105.toInt.toNat by omega]) ?_
          refine m_aload_n C dL_law_305 rfl rfl ?_
          refine m_iload_n C dL_law_306 rfl rfl ?_
          refine m_iconst (v := 5) C dL_law_307 (by decide) ?_
          refine m_iadd C dL_law_308 ?_
          refine m_topi (fun x129 ex129 => ?_)
          have tx129 : x129.toInt = y3.toInt + 5 := by rw [ex129, ti_addv b8 kc_5 (by decide), kt_5]
          have b130 : IV x129 5 3071 := by rw [ex129]; exact iv_add b8 kc_5 (by decide)
          refine m_sld C hX hbl hbA ⟨by omega, by omega⟩ dL_law_309 ?_
          refine m_eqs (w := x110) (by rw [ex110, show x129.toInt.toNat = x108.toInt.toNat by omega]) ?_
          refine m_callV (n := 5) (ci := 11) (st := []) C (c_X12_copyE l G τ111 (x98) (x101) (x104) (x107) (x110) i112 ) (by decide) (by decide) rfl rfl rfl q4_212 q4_209 q4_210 q4_211 q1_7 (by decide +kernel) rfl (by decide) ⟨by show (250 + 8 * y3.toInt.toNat) + 0 ≤ 600000; omega, by show (5300 + 24 * y3.toInt.toNat) + 0 ≤ 7302250; omega⟩ rfl (Nat.le_of_ble_eq_true rfl) dL_law_310 ?_
          rintro _ τ131 ⟨x134, rfl, i132, f133, b135, h137⟩
          have g138 := Rel.copyB rτ f113 f133 z118 h137
          clear h137 z118
          have r139 : Rel τ131 := r119.call f133 (by decide) (by decide)
          have r140 : RT τ131 := r120.call f133 (by decide) (by decide)
          show MW p l e _ s m _ below meth c _ 4 G (250 + 8 * y3.toInt.toNat) (5300 + 24 * y3.toInt.toNat) 313 [some (.ref b), some (.ref (G.1 0 0)), some (.ref (G.1 22 0)), some (.int y3)] [.int x134] τ131
          refine m_pop C dL_law_313 rfl ?_
          refine m_goto (tgt := 1028) C dL_law_314 (by decide) ?_
          obtain ⟨x141, ex141⟩ : ∃ y : Int32, y = y3 + 6 := ⟨_, rfl⟩
          have tx141 : x141.toInt = y3.toInt + 6 := by rw [ex141, ti_addv b8 kc_6 (by decide), kt_6]
          have b142 : IV x141 6 3072 := by rw [ex141]; exact iv_add b8 kc_6 (by decide)
          refine m_iinc (v := x141) (L1 := [some (.ref b), some (.ref (G.1 0 0)), some (.ref (G.1 22 0)), some (.int x141)]) C dL_law_1028 rfl (by rw [ex141]; rfl) (by decide) rfl rfl ?_
          refine m_goto (tgt := 18) C dL_law_1031 (by decide) ?_
          refine m_widen (c2 := 250 + 8 * x141.toInt.toNat) (s2 := 5300 + 24 * x141.toInt.toNat) (by omega) (by omega) ?_
          exact ih18 τ131 x141 i132 r139 r140 (iv_wk b142 (by decide)) (by have q := hm18; omega)
        by_cases s143 : x11.toInt = 3
        · refine m_tableIn (tgt := 317) (off := 284) C dL_law_33 (by omega) (by omega) (by rw [s143]; rfl) (by decide) ?_
          have b144 : IV x11 3 3 := ⟨by omega, by omega⟩
          refine m_aload_n C dL_law_317 rfl rfl ?_
          refine m_aload_n C dL_law_318 rfl rfl ?_
          refine m_iload_n C dL_law_319 rfl rfl ?_
          refine m_iconst (v := 1) C dL_law_320 (by decide) ?_
          refine m_iadd C dL_law_321 ?_
          refine m_topi (fun x145 ex145 => ?_)
          have tx145 : x145.toInt = y3.toInt + 1 := by rw [ex145, ti_addv b8 kc_1 (by decide), kt_1]
          have b146 : IV x145 1 3067 := by rw [ex145]; exact iv_add b8 kc_1 (by decide)
          refine m_sld C hX hbl hbA ⟨by omega, by omega⟩ dL_law_322 ?_
          refine m_topi (fun x147 ex147 => ?_)
          refine m_callV (n := 1) (ci := 10) (st := []) C (c_X11_dropE l G τ (x147) iτ ) (by decide) (by decide) rfl rfl rfl q2_34 q2_31 q2_32 q2_33 q1_1 (by decide +kernel) rfl (by decide) ⟨by show (250 + 8 * y3.toInt.toNat) + 0 ≤ 600000; omega, by show (5300 + 24 * y3.toInt.toNat) + 0 ≤ 7302250; omega⟩ rfl (Nat.le_of_ble_eq_true rfl) dL_law_323 ?_
          rintro _ τ148 ⟨x151, rfl, i149, f150, b152, h154⟩
          have z155 := Hid.mk h154
          clear h154
          have r156 : RT τ148 := tτ.call f150 (by decide) (by decide)
          show MW p l e _ s m _ below meth c _ 4 G (250 + 8 * y3.toInt.toNat) (5300 + 24 * y3.toInt.toNat) 326 [some (.ref b), some (.ref (G.1 0 0)), some (.ref (G.1 22 0)), some (.int y3)] [.int x151] τ148
          refine m_pop C dL_law_326 rfl ?_
          refine m_aload_n C dL_law_327 rfl rfl ?_
          refine m_aload_n C dL_law_328 rfl rfl ?_
          refine m_iload_n C dL_law_329 rfl rfl ?_
          refine m_iconst (v := 1) C dL_law_330 (by decide) ?_
          refine m_iadd C dL_law_331 ?_
          refine m_topi (fun x157 ex157 => ?_)
          have tx157 : x157.toInt = y3.toInt + 1 := by rw [ex157, ti_addv b8 kc_1 (by decide), kt_1]
          have b158 : IV x157 1 3067 := by rw [ex157]; exact iv_add b8 kc_1 (by decide)
          refine m_sld C hX hbl hbA ⟨by omega, by omega⟩ dL_law_332 ?_
          refine m_eqs (w := x147) (by rw [ex147, show x157.toInt.toNat = x145.toInt.toNat by omega]) ?_
          refine m_callV (n := 1) (ci := 11) (st := []) C (c_X12_dropE l G τ148 (x147) i149 ) (by decide) (by decide) rfl rfl rfl q4_216 q4_213 q4_214 q4_215 q1_7 (by decide +kernel) rfl (by decide) ⟨by show (250 + 8 * y3.toInt.toNat) + 0 ≤ 600000; omega, by show (5300 + 24 * y3.toInt.toNat) + 0 ≤ 7302250; omega⟩ rfl (Nat.le_of_ble_eq_true rfl) dL_law_333 ?_
          rintro _ τ159 ⟨x162, rfl, i160, f161, b163, h165⟩
          have g166 := Rel.dropB rτ f150 f161 z155 h165
          clear h165 z155
          have r167 : Rel τ159 := g166.1
          have q168 := g166.2
          have r169 : RT τ159 := r156.call f161 (by decide) (by decide)
          show MW p l e _ s m _ below meth c _ 4 G (250 + 8 * y3.toInt.toNat) (5300 + 24 * y3.toInt.toNat) 336 [some (.ref b), some (.ref (G.1 0 0)), some (.ref (G.1 22 0)), some (.int y3)] [.int x162] τ159
          refine m_pop C dL_law_336 rfl ?_
          refine m_goto (tgt := 1028) C dL_law_337 (by decide) ?_
          obtain ⟨x170, ex170⟩ : ∃ y : Int32, y = y3 + 6 := ⟨_, rfl⟩
          have tx170 : x170.toInt = y3.toInt + 6 := by rw [ex170, ti_addv b8 kc_6 (by decide), kt_6]
          have b171 : IV x170 6 3072 := by rw [ex170]; exact iv_add b8 kc_6 (by decide)
          refine m_iinc (v := x170) (L1 := [some (.ref b), some (.ref (G.1 0 0)), some (.ref (G.1 22 0)), some (.int x170)]) C dL_law_1028 rfl (by rw [ex170]; rfl) (by decide) rfl rfl ?_
          refine m_goto (tgt := 18) C dL_law_1031 (by decide) ?_
          refine m_widen (c2 := 250 + 8 * x170.toInt.toNat) (s2 := 5300 + 24 * x170.toInt.toNat) (by omega) (by omega) ?_
          exact ih18 τ159 x170 i160 r167 r169 (iv_wk b171 (by decide)) (by have q := hm18; omega)
        by_cases s172 : x11.toInt = 4
        · refine m_tableIn (tgt := 340) (off := 307) C dL_law_33 (by omega) (by omega) (by rw [s172]; rfl) (by decide) ?_
          have b173 : IV x11 4 4 := ⟨by omega, by omega⟩
          refine m_aload_n C dL_law_340 rfl rfl ?_
          refine m_aload_n C dL_law_341 rfl rfl ?_
          refine m_iload_n C dL_law_342 rfl rfl ?_
          refine m_iconst (v := 1) C dL_law_343 (by decide) ?_
          refine m_iadd C dL_law_344 ?_
          refine m_topi (fun x174 ex174 => ?_)
          have tx174 : x174.toInt = y3.toInt + 1 := by rw [ex174, ti_addv b8 kc_1 (by decide), kt_1]
          have b175 : IV x174 1 3067 := by rw [ex174]; exact iv_add b8 kc_1 (by decide)
          refine m_sld C hX hbl hbA ⟨by omega, by omega⟩ dL_law_345 ?_
          refine m_topi (fun x176 ex176 => ?_)
          refine m_i2l C dL_law_346 ?_
          refine m_bipush (v := 32) C dL_law_347 (by decide) ?_
          refine m_lshl C dL_law_349 ?_
          refine m_topl (fun w177 ew177 => ?_)
          refine m_aload_n C dL_law_350 rfl rfl ?_
          refine m_iload_n C dL_law_351 rfl rfl ?_
          refine m_iconst (v := 2) C dL_law_352 (by decide) ?_
          refine m_iadd C dL_law_353 ?_
          refine m_topi (fun x178 ex178 => ?_)
          have tx178 : x178.toInt = y3.toInt + 2 := by rw [ex178, ti_addv b8 kc_2 (by decide), kt_2]
          have b179 : IV x178 2 3068 := by rw [ex178]; exact iv_add b8 kc_2 (by decide)
          refine m_sld C hX hbl hbA ⟨by omega, by omega⟩ dL_law_354 ?_
          refine m_topi (fun x180 ex180 => ?_)
          refine m_i2l C dL_law_355 ?_
          refine m_ldc2 (v := 4294967295) C dL_law_356 q5_222 ?_
          refine m_land C dL_law_359 ?_
          refine m_topl (fun w181 ew181 => ?_)
          refine m_lor C dL_law_360 ?_
          refine m_topl (fun w182 ew182 => ?_)
          refine m_aload_n C dL_law_361 rfl rfl ?_
          refine m_iload_n C dL_law_362 rfl rfl ?_
          refine m_iconst (v := 3) C dL_law_363 (by decide) ?_
          refine m_iadd C dL_law_364 ?_
          refine m_topi (fun x183 ex183 => ?_)
          have tx183 : x183.toInt = y3.toInt + 3 := by rw [ex183, ti_addv b8 kc_3 (by decide), kt_3]
          have b184 : IV x183 3 3069 := by rw [ex183]; exact iv_add b8 kc_3 (by decide)
          refine m_sld C hX hbl hbA ⟨by omega, by omega⟩ dL_law_365 ?_
          refine m_topi (fun x185 ex185 => ?_)
          refine m_callV (n := 2) (ci := 10) (st := []) C (c_X11_feedT l G τ (w182) (x185) iτ ) (by decide) (by decide) rfl rfl rfl q2_42 q2_39 q2_40 q2_41 q1_1 (by decide +kernel) rfl (by decide) ⟨by show (250 + 8 * y3.toInt.toNat) + 0 ≤ 600000; omega, by show (5300 + 24 * y3.toInt.toNat) + 0 ≤ 7302250; omega⟩ rfl (Nat.le_of_ble_eq_true rfl) dL_law_366 ?_
          rintro _ τ186 ⟨x189, rfl, i187, f188, b190, h192⟩
          have z193 := Hid.mk h192
          clear h192
          show MW p l e _ s m _ below meth c _ 4 G (250 + 8 * y3.toInt.toNat) (5300 + 24 * y3.toInt.toNat) 369 [some (.ref b), some (.ref (G.1 0 0)), some (.ref (G.1 22 0)), some (.int y3)] [.int x189] τ186
          refine m_pop C dL_law_369 rfl ?_
          refine m_aload_n C dL_law_370 rfl rfl ?_
          refine m_aload_n C dL_law_371 rfl rfl ?_
          refine m_iload_n C dL_law_372 rfl rfl ?_
          refine m_iconst (v := 1) C dL_law_373 (by decide) ?_
          refine m_iadd C dL_law_374 ?_
          refine m_topi (fun x194 ex194 => ?_)
          have tx194 : x194.toInt = y3.toInt + 1 := by rw [ex194, ti_addv b8 kc_1 (by decide), kt_1]
          have b195 : IV x194 1 3067 := by rw [ex194]; exact iv_add b8 kc_1 (by decide)
          refine m_sld C hX hbl hbA ⟨by omega, by omega⟩ dL_law_375 ?_
          refine m_eqs (w := x176) (by rw [ex176, show x194.toInt.toNat = x174.toInt.toNat by omega]) ?_
          refine m_i2l C dL_law_376 ?_
          refine m_bipush (v := 32) C dL_law_377 (by decide) ?_
          refine m_lshl C dL_law_379 ?_
          refine m_topl (fun w196 ew196 => ?_)
          refine m_aload_n C dL_law_380 rfl rfl ?_
          refine m_iload_n C dL_law_381 rfl rfl ?_
          refine m_iconst (v := 2) C dL_law_382 (by decide) ?_
          refine m_iadd C dL_law_383 ?_
          refine m_topi (fun x197 ex197 => ?_)
          have tx197 : x197.toInt = y3.toInt + 2 := by rw [ex197, ti_addv b8 kc_2 (by decide), kt_2]
          have b198 : IV x197 2 3068 := by rw [ex197]; exact iv_add b8 kc_2 (by decide)
          refine m_sld C hX hbl hbA ⟨by omega, by omega⟩ dL_law_384 ?_
          refine m_eqs (w := x180) (by rw [ex180, show x197.toInt.toNat = x178.toInt.toNat by omega]) ?_
          refine m_i2l C dL_law_385 ?_
          refine m_ldc2 (v := 4294967295) C dL_law_386 q5_222 ?_
          refine m_land C dL_law_389 ?_
          refine m_topl (fun w199 ew199 => ?_)
          refine m_lor C dL_law_390 ?_
          refine m_topl (fun w200 ew200 => ?_)
          refine m_aload_n C dL_law_391 rfl rfl ?_
          refine m_iload_n C dL_law_392 rfl rfl ?_
          refine m_iconst (v := 3) C dL_law_393 (by decide) ?_
          refine m_iadd C dL_law_394 ?_
          refine m_topi (fun x201 ex201 => ?_)
          have tx201 : x201.toInt = y3.toInt + 3 := by rw [ex201, ti_addv b8 kc_3 (by decide), kt_3]
          have b202 : IV x201 3 3069 := by rw [ex201]; exact iv_add b8 kc_3 (by decide)
          refine m_sld C hX hbl hbA ⟨by omega, by omega⟩ dL_law_395 ?_
          refine m_eqs (w := x185) (by rw [ex185, show x201.toInt.toNat = x183.toInt.toNat by omega]) ?_
          refine m_callV (n := 2) (ci := 11) (st := []) C (c_X12_feedT l G τ186 (w200) (x185) i187 ) (by decide) (by decide) rfl rfl rfl q4_220 q4_217 q4_218 q4_219 q1_7 (by decide +kernel) rfl (by decide) ⟨by show (250 + 8 * y3.toInt.toNat) + 0 ≤ 600000; omega, by show (5300 + 24 * y3.toInt.toNat) + 0 ≤ 7302250; omega⟩ rfl (Nat.le_of_ble_eq_true rfl) dL_law_396 ?_
          rintro _ τ203 ⟨x206, rfl, i204, f205, b207, h209⟩
          have g210 := RT.feedB rτ tτ f188 f205 z193 h209
          clear h209 z193
          have r211 : Rel τ203 := g210.1
          have r212 : RT τ203 := g210.2.1
          have q213 := g210.2.2
          show MW p l e _ s m _ below meth c _ 4 G (250 + 8 * y3.toInt.toNat) (5300 + 24 * y3.toInt.toNat) 399 [some (.ref b), some (.ref (G.1 0 0)), some (.ref (G.1 22 0)), some (.int y3)] [.int x206] τ203
          refine m_pop C dL_law_399 rfl ?_
          refine m_goto (tgt := 1028) C dL_law_400 (by decide) ?_
          obtain ⟨x214, ex214⟩ : ∃ y : Int32, y = y3 + 6 := ⟨_, rfl⟩
          have tx214 : x214.toInt = y3.toInt + 6 := by rw [ex214, ti_addv b8 kc_6 (by decide), kt_6]
          have b215 : IV x214 6 3072 := by rw [ex214]; exact iv_add b8 kc_6 (by decide)
          refine m_iinc (v := x214) (L1 := [some (.ref b), some (.ref (G.1 0 0)), some (.ref (G.1 22 0)), some (.int x214)]) C dL_law_1028 rfl (by rw [ex214]; rfl) (by decide) rfl rfl ?_
          refine m_goto (tgt := 18) C dL_law_1031 (by decide) ?_
          refine m_widen (c2 := 250 + 8 * x214.toInt.toNat) (s2 := 5300 + 24 * x214.toInt.toNat) (by omega) (by omega) ?_
          exact ih18 τ203 x214 i204 r211 r212 (iv_wk b215 (by decide)) (by have q := hm18; omega)
        by_cases s216 : x11.toInt = 5
        · refine m_tableIn (tgt := 403) (off := 370) C dL_law_33 (by omega) (by omega) (by rw [s216]; rfl) (by decide) ?_
          have b217 : IV x11 5 5 := ⟨by omega, by omega⟩
          refine m_aload_n C dL_law_403 rfl rfl ?_
          obtain ⟨⟨T, N, hTC, hTM⟩, hTL⟩ := id tτ
          refine m_callV (n := 0) (ci := 10) (st := []) C (c_X11_towerT l G τ T N  iτ hTC) (by decide) (by decide) rfl rfl rfl q2_51 q2_48 q2_49 q2_50 q1_1 (by decide +kernel) rfl (by decide) ⟨by show (250 + 8 * y3.toInt.toNat) + 8 ≤ 600000; omega, by show (5300 + 24 * y3.toInt.toNat) + 24 ≤ 7302250; omega⟩ rfl (Nat.le_of_ble_eq_true rfl) dL_law_404 ?_
          rintro _ τ218 ⟨x221, rfl, i219, f220, b222, h224⟩
          have z225 := Hid.mk h224
          clear h224
          show MW p l e _ s m _ below meth c _ 4 G ((250 + 8 * y3.toInt.toNat) + 8) ((5300 + 24 * y3.toInt.toNat) + 24) 407 [some (.ref b), some (.ref (G.1 0 0)), some (.ref (G.1 22 0)), some (.int y3)] [.int x221] τ218
          refine m_aload_n C dL_law_407 rfl rfl ?_
          have hTM2 := hTM.fr f220 (by decide) (by decide) (by simp) (by decide)
          refine m_callV (n := 0) (ci := 11) (st := [.int x221]) C (c_X12_towerT l G τ218 T N  i219 hTM2) (by decide) (by decide) rfl rfl rfl q4_227 q4_224 q4_225 q4_226 q1_7 (by decide +kernel) rfl (by decide) ⟨by show ((250 + 8 * y3.toInt.toNat) + 8) + 0 ≤ 600000; omega, by show ((5300 + 24 * y3.toInt.toNat) + 24) + 0 ≤ 7302250; omega⟩ rfl (Nat.le_of_ble_eq_true rfl) dL_law_408 ?_
          rintro _ τ226 ⟨x229, rfl, i227, f228, b230, h232⟩
          have g233 := RT.towerB rτ tτ f220 f228 z225 h232
          clear h232 z225
          have r234 : Rel τ226 := g233.1
          have r235 : RT τ226 := g233.2.1
          have q236 := g233.2.2
          show MW p l e _ s m _ below meth c _ 4 G ((250 + 8 * y3.toInt.toNat) + 8) ((5300 + 24 * y3.toInt.toNat) + 24) 411 [some (.ref b), some (.ref (G.1 0 0)), some (.ref (G.1 22 0)), some (.int y3)] [.int x229, .int x221] τ226
          refine m_icmp_eq (tgt := 1028) C dL_law_411 (by decide) (fun c237 => ?_) (fun c237 => ?_)
          · have f238 : x221.toInt = x229.toInt := by
              have q : _ := c237
              simp only [ti_nle, ti_nlt, ti_le, ti_lt, ti_eq, ti_ne, Classical.not_not] at q
              omega
            obtain ⟨x239, ex239⟩ : ∃ y : Int32, y = y3 + 6 := ⟨_, rfl⟩
            have tx239 : x239.toInt = y3.toInt + 6 := by rw [ex239, ti_addv b8 kc_6 (by decide), kt_6]
            have b240 : IV x239 6 3072 := by rw [ex239]; exact iv_add b8 kc_6 (by decide)
            refine m_iinc (v := x239) (L1 := [some (.ref b), some (.ref (G.1 0 0)), some (.ref (G.1 22 0)), some (.int x239)]) C dL_law_1028 rfl (by rw [ex239]; rfl) (by decide) rfl rfl ?_
            refine m_goto (tgt := 18) C dL_law_1031 (by decide) ?_
            refine m_widen (c2 := 250 + 8 * x239.toInt.toNat) (s2 := 5300 + 24 * x239.toInt.toNat) (by omega) (by omega) ?_
            exact ih18 τ226 x239 i227 r234 r235 (iv_wk b240 (by decide)) (by have q := hm18; omega)
          · have f241 : x221.toInt ≠ x229.toInt := by
              have q : _ := c237
              simp only [ti_nle, ti_nlt, ti_le, ti_lt, ti_eq, ti_ne, Classical.not_not] at q
              omega
            exfalso
            omega
        by_cases s242 : x11.toInt = 6
        · refine m_tableIn (tgt := 416) (off := 383) C dL_law_33 (by omega) (by omega) (by rw [s242]; rfl) (by decide) ?_
          have b243 : IV x11 6 6 := ⟨by omega, by omega⟩
          refine m_aload_n C dL_law_416 rfl rfl ?_
          refine m_callV (n := 0) (ci := 10) (st := []) C (c_X11_faultT l G τ  iτ ) (by decide) (by decide) rfl rfl rfl q3_13 q3_10 q3_11 q3_12 q1_1 (by decide +kernel) rfl (by decide) ⟨by show (250 + 8 * y3.toInt.toNat) + 0 ≤ 600000; omega, by show (5300 + 24 * y3.toInt.toNat) + 0 ≤ 7302250; omega⟩ rfl (Nat.le_of_ble_eq_true rfl) dL_law_417 ?_
          rintro _ τ244 ⟨x247, rfl, i245, f246, b248, h250⟩
          have z251 := Hid.mk h250
          clear h250
          have r252 : Rel τ244 := rτ.call f246 (by decide) (by decide)
          have r253 : RT τ244 := tτ.call f246 (by decide) (by decide)
          show MW p l e _ s m _ below meth c _ 4 G (250 + 8 * y3.toInt.toNat) (5300 + 24 * y3.toInt.toNat) 420 [some (.ref b), some (.ref (G.1 0 0)), some (.ref (G.1 22 0)), some (.int y3)] [.int x247] τ244
          refine m_pop C dL_law_420 rfl ?_
          refine m_aload_n C dL_law_421 rfl rfl ?_
          refine m_callV (n := 0) (ci := 11) (st := []) C (c_X12_faultT l G τ244  i245 ) (by decide) (by decide) rfl rfl rfl q5_42 q5_39 q5_40 q5_41 q1_7 (by decide +kernel) rfl (by decide) ⟨by show (250 + 8 * y3.toInt.toNat) + 0 ≤ 600000; omega, by show (5300 + 24 * y3.toInt.toNat) + 0 ≤ 7302250; omega⟩ rfl (Nat.le_of_ble_eq_true rfl) dL_law_422 ?_
          rintro _ τ254 ⟨x257, rfl, i255, f256, b258, h260⟩
          have g261 := RT.faultB tτ f246 z251 h260
          clear h260 z251
          have r262 : Rel τ254 := r252.call f256 (by decide) (by decide)
          have r263 : RT τ254 := r253.call f256 (by decide) (by decide)
          show MW p l e _ s m _ below meth c _ 4 G (250 + 8 * y3.toInt.toNat) (5300 + 24 * y3.toInt.toNat) 425 [some (.ref b), some (.ref (G.1 0 0)), some (.ref (G.1 22 0)), some (.int y3)] [.int x257] τ254
          refine m_pop C dL_law_425 rfl ?_
          refine m_goto (tgt := 1028) C dL_law_426 (by decide) ?_
          obtain ⟨x264, ex264⟩ : ∃ y : Int32, y = y3 + 6 := ⟨_, rfl⟩
          have tx264 : x264.toInt = y3.toInt + 6 := by rw [ex264, ti_addv b8 kc_6 (by decide), kt_6]
          have b265 : IV x264 6 3072 := by rw [ex264]; exact iv_add b8 kc_6 (by decide)
          refine m_iinc (v := x264) (L1 := [some (.ref b), some (.ref (G.1 0 0)), some (.ref (G.1 22 0)), some (.int x264)]) C dL_law_1028 rfl (by rw [ex264]; rfl) (by decide) rfl rfl ?_
          refine m_goto (tgt := 18) C dL_law_1031 (by decide) ?_
          refine m_widen (c2 := 250 + 8 * x264.toInt.toNat) (s2 := 5300 + 24 * x264.toInt.toNat) (by omega) (by omega) ?_
          exact ih18 τ254 x264 i255 r262 r263 (iv_wk b265 (by decide)) (by have q := hm18; omega)
        by_cases s266 : x11.toInt = 7
        · refine m_tableIn (tgt := 429) (off := 396) C dL_law_33 (by omega) (by omega) (by rw [s266]; rfl) (by decide) ?_
          have b267 : IV x11 7 7 := ⟨by omega, by omega⟩
          refine m_aload_n C dL_law_429 rfl rfl ?_
          refine m_aload_n C dL_law_430 rfl rfl ?_
          refine m_iload_n C dL_law_431 rfl rfl ?_
          refine m_iconst (v := 1) C dL_law_432 (by decide) ?_
          refine m_iadd C dL_law_433 ?_
          refine m_topi (fun x268 ex268 => ?_)
          have tx268 : x268.toInt = y3.toInt + 1 := by rw [ex268, ti_addv b8 kc_1 (by decide), kt_1]
          have b269 : IV x268 1 3067 := by rw [ex268]; exact iv_add b8 kc_1 (by decide)
          refine m_sld C hX hbl hbA ⟨by omega, by omega⟩ dL_law_434 ?_
          refine m_topi (fun x270 ex270 => ?_)
          refine m_aload_n C dL_law_435 rfl rfl ?_
          refine m_iload_n C dL_law_436 rfl rfl ?_
          refine m_iconst (v := 2) C dL_law_437 (by decide) ?_
          refine m_iadd C dL_law_438 ?_
          refine m_topi (fun x271 ex271 => ?_)
          have tx271 : x271.toInt = y3.toInt + 2 := by rw [ex271, ti_addv b8 kc_2 (by decide), kt_2]
          have b272 : IV x271 2 3068 := by rw [ex271]; exact iv_add b8 kc_2 (by decide)
          refine m_sld C hX hbl hbA ⟨by omega, by omega⟩ dL_law_439 ?_
          refine m_topi (fun x273 ex273 => ?_)
          refine m_callV (n := 2) (ci := 10) (st := []) C (c_X11_go l G τ (x270) (x273) iτ ) (by decide) (by decide) rfl rfl rfl q3_17 q3_14 q3_15 q3_16 q1_1 (by decide +kernel) rfl (by decide) ⟨by show (250 + 8 * y3.toInt.toNat) + 0 ≤ 600000; omega, by show (5300 + 24 * y3.toInt.toNat) + 0 ≤ 7302250; omega⟩ rfl (Nat.le_of_ble_eq_true rfl) dL_law_440 ?_
          rintro _ τ274 ⟨x277, rfl, i275, f276, b278⟩
          have r281 : Rel τ274 := rτ.call f276 (by decide) (by decide)
          have r282 : RT τ274 := tτ.call f276 (by decide) (by decide)
          show MW p l e _ s m _ below meth c _ 4 G (250 + 8 * y3.toInt.toNat) (5300 + 24 * y3.toInt.toNat) 443 [some (.ref b), some (.ref (G.1 0 0)), some (.ref (G.1 22 0)), some (.int y3)] [.int x277] τ274
          refine m_pop C dL_law_443 rfl ?_
          refine m_aload_n C dL_law_444 rfl rfl ?_
          refine m_aload_n C dL_law_445 rfl rfl ?_
          refine m_iload_n C dL_law_446 rfl rfl ?_
          refine m_iconst (v := 1) C dL_law_447 (by decide) ?_
          refine m_iadd C dL_law_448 ?_
          refine m_topi (fun x283 ex283 => ?_)
          have tx283 : x283.toInt = y3.toInt + 1 := by rw [ex283, ti_addv b8 kc_1 (by decide), kt_1]
          have b284 : IV x283 1 3067 := by rw [ex283]; exact iv_add b8 kc_1 (by decide)
          refine m_sld C hX hbl hbA ⟨by omega, by omega⟩ dL_law_449 ?_
          refine m_eqs (w := x270) (by rw [ex270, show x283.toInt.toNat = x268.toInt.toNat by omega]) ?_
          refine m_aload_n C dL_law_450 rfl rfl ?_
          refine m_iload_n C dL_law_451 rfl rfl ?_
          refine m_iconst (v := 2) C dL_law_452 (by decide) ?_
          refine m_iadd C dL_law_453 ?_
          refine m_topi (fun x285 ex285 => ?_)
          have tx285 : x285.toInt = y3.toInt + 2 := by rw [ex285, ti_addv b8 kc_2 (by decide), kt_2]
          have b286 : IV x285 2 3068 := by rw [ex285]; exact iv_add b8 kc_2 (by decide)
          refine m_sld C hX hbl hbA ⟨by omega, by omega⟩ dL_law_454 ?_
          refine m_eqs (w := x273) (by rw [ex273, show x285.toInt.toNat = x271.toInt.toNat by omega]) ?_
          refine m_callV (n := 2) (ci := 11) (st := []) C (c_X12_go l G τ274 (x270) (x273) i275 ) (by decide) (by decide) rfl rfl rfl q5_46 q5_43 q5_44 q5_45 q1_7 (by decide +kernel) rfl (by decide) ⟨by show (250 + 8 * y3.toInt.toNat) + 0 ≤ 600000; omega, by show (5300 + 24 * y3.toInt.toNat) + 0 ≤ 7302250; omega⟩ rfl (Nat.le_of_ble_eq_true rfl) dL_law_455 ?_
          rintro _ τ287 ⟨x290, rfl, i288, f289, b291⟩
          have r294 : Rel τ287 := r281.call f289 (by decide) (by decide)
          have r295 : RT τ287 := r282.call f289 (by decide) (by decide)
          show MW p l e _ s m _ below meth c _ 4 G (250 + 8 * y3.toInt.toNat) (5300 + 24 * y3.toInt.toNat) 458 [some (.ref b), some (.ref (G.1 0 0)), some (.ref (G.1 22 0)), some (.int y3)] [.int x290] τ287
          refine m_pop C dL_law_458 rfl ?_
          refine m_goto (tgt := 1028) C dL_law_459 (by decide) ?_
          obtain ⟨x296, ex296⟩ : ∃ y : Int32, y = y3 + 6 := ⟨_, rfl⟩
          have tx296 : x296.toInt = y3.toInt + 6 := by rw [ex296, ti_addv b8 kc_6 (by decide), kt_6]
          have b297 : IV x296 6 3072 := by rw [ex296]; exact iv_add b8 kc_6 (by decide)
          refine m_iinc (v := x296) (L1 := [some (.ref b), some (.ref (G.1 0 0)), some (.ref (G.1 22 0)), some (.int x296)]) C dL_law_1028 rfl (by rw [ex296]; rfl) (by decide) rfl rfl ?_
          refine m_goto (tgt := 18) C dL_law_1031 (by decide) ?_
          refine m_widen (c2 := 250 + 8 * x296.toInt.toNat) (s2 := 5300 + 24 * x296.toInt.toNat) (by omega) (by omega) ?_
          exact ih18 τ287 x296 i288 r294 r295 (iv_wk b297 (by decide)) (by have q := hm18; omega)
        by_cases s298 : x11.toInt = 8
        · refine m_tableIn (tgt := 462) (off := 429) C dL_law_33 (by omega) (by omega) (by rw [s298]; rfl) (by decide) ?_
          have b299 : IV x11 8 8 := ⟨by omega, by omega⟩
          refine m_aload_n C dL_law_462 rfl rfl ?_
          refine m_aload_n C dL_law_463 rfl rfl ?_
          refine m_iload_n C dL_law_464 rfl rfl ?_
          refine m_iconst (v := 1) C dL_law_465 (by decide) ?_
          refine m_iadd C dL_law_466 ?_
          refine m_topi (fun x300 ex300 => ?_)
          have tx300 : x300.toInt = y3.toInt + 1 := by rw [ex300, ti_addv b8 kc_1 (by decide), kt_1]
          have b301 : IV x300 1 3067 := by rw [ex300]; exact iv_add b8 kc_1 (by decide)
          refine m_sld C hX hbl hbA ⟨by omega, by omega⟩ dL_law_467 ?_
          refine m_topi (fun x302 ex302 => ?_)
          refine m_aload_n C dL_law_468 rfl rfl ?_
          refine m_iload_n C dL_law_469 rfl rfl ?_
          refine m_iconst (v := 2) C dL_law_470 (by decide) ?_
          refine m_iadd C dL_law_471 ?_
          refine m_topi (fun x303 ex303 => ?_)
          have tx303 : x303.toInt = y3.toInt + 2 := by rw [ex303, ti_addv b8 kc_2 (by decide), kt_2]
          have b304 : IV x303 2 3068 := by rw [ex303]; exact iv_add b8 kc_2 (by decide)
          refine m_sld C hX hbl hbA ⟨by omega, by omega⟩ dL_law_472 ?_
          refine m_topi (fun x305 ex305 => ?_)
          refine m_callV (n := 2) (ci := 10) (st := []) C (c_X11_hang l G τ (x302) (x305) iτ ) (by decide) (by decide) rfl rfl rfl q3_29 q3_26 q3_27 q3_28 q1_1 (by decide +kernel) rfl (by decide) ⟨by show (250 + 8 * y3.toInt.toNat) + 0 ≤ 600000; omega, by show (5300 + 24 * y3.toInt.toNat) + 0 ≤ 7302250; omega⟩ rfl (Nat.le_of_ble_eq_true rfl) dL_law_473 ?_
          rintro _ τ306 ⟨x309, rfl, i307, f308, b310⟩
          have r313 : Rel τ306 := rτ.call f308 (by decide) (by decide)
          have r314 : RT τ306 := tτ.call f308 (by decide) (by decide)
          show MW p l e _ s m _ below meth c _ 4 G (250 + 8 * y3.toInt.toNat) (5300 + 24 * y3.toInt.toNat) 476 [some (.ref b), some (.ref (G.1 0 0)), some (.ref (G.1 22 0)), some (.int y3)] [.int x309] τ306
          refine m_pop C dL_law_476 rfl ?_
          refine m_aload_n C dL_law_477 rfl rfl ?_
          refine m_aload_n C dL_law_478 rfl rfl ?_
          refine m_iload_n C dL_law_479 rfl rfl ?_
          refine m_iconst (v := 1) C dL_law_480 (by decide) ?_
          refine m_iadd C dL_law_481 ?_
          refine m_topi (fun x315 ex315 => ?_)
          have tx315 : x315.toInt = y3.toInt + 1 := by rw [ex315, ti_addv b8 kc_1 (by decide), kt_1]
          have b316 : IV x315 1 3067 := by rw [ex315]; exact iv_add b8 kc_1 (by decide)
          refine m_sld C hX hbl hbA ⟨by omega, by omega⟩ dL_law_482 ?_
          refine m_eqs (w := x302) (by rw [ex302, show x315.toInt.toNat = x300.toInt.toNat by omega]) ?_
          refine m_aload_n C dL_law_483 rfl rfl ?_
          refine m_iload_n C dL_law_484 rfl rfl ?_
          refine m_iconst (v := 2) C dL_law_485 (by decide) ?_
          refine m_iadd C dL_law_486 ?_
          refine m_topi (fun x317 ex317 => ?_)
          have tx317 : x317.toInt = y3.toInt + 2 := by rw [ex317, ti_addv b8 kc_2 (by decide), kt_2]
          have b318 : IV x317 2 3068 := by rw [ex317]; exact iv_add b8 kc_2 (by decide)
          refine m_sld C hX hbl hbA ⟨by omega, by omega⟩ dL_law_487 ?_
          refine m_eqs (w := x305) (by rw [ex305, show x317.toInt.toNat = x303.toInt.toNat by omega]) ?_
          refine m_callV (n := 2) (ci := 11) (st := []) C (c_X12_hang l G τ306 (x302) (x305) i307 ) (by decide) (by decide) rfl rfl rfl q5_58 q5_55 q5_56 q5_57 q1_7 (by decide +kernel) rfl (by decide) ⟨by show (250 + 8 * y3.toInt.toNat) + 0 ≤ 600000; omega, by show (5300 + 24 * y3.toInt.toNat) + 0 ≤ 7302250; omega⟩ rfl (Nat.le_of_ble_eq_true rfl) dL_law_488 ?_
          rintro _ τ319 ⟨x322, rfl, i320, f321, b323⟩
          have r326 : Rel τ319 := r313.call f321 (by decide) (by decide)
          have r327 : RT τ319 := r314.call f321 (by decide) (by decide)
          show MW p l e _ s m _ below meth c _ 4 G (250 + 8 * y3.toInt.toNat) (5300 + 24 * y3.toInt.toNat) 491 [some (.ref b), some (.ref (G.1 0 0)), some (.ref (G.1 22 0)), some (.int y3)] [.int x322] τ319
          refine m_pop C dL_law_491 rfl ?_
          refine m_goto (tgt := 1028) C dL_law_492 (by decide) ?_
          obtain ⟨x328, ex328⟩ : ∃ y : Int32, y = y3 + 6 := ⟨_, rfl⟩
          have tx328 : x328.toInt = y3.toInt + 6 := by rw [ex328, ti_addv b8 kc_6 (by decide), kt_6]
          have b329 : IV x328 6 3072 := by rw [ex328]; exact iv_add b8 kc_6 (by decide)
          refine m_iinc (v := x328) (L1 := [some (.ref b), some (.ref (G.1 0 0)), some (.ref (G.1 22 0)), some (.int x328)]) C dL_law_1028 rfl (by rw [ex328]; rfl) (by decide) rfl rfl ?_
          refine m_goto (tgt := 18) C dL_law_1031 (by decide) ?_
          refine m_widen (c2 := 250 + 8 * x328.toInt.toNat) (s2 := 5300 + 24 * x328.toInt.toNat) (by omega) (by omega) ?_
          exact ih18 τ319 x328 i320 r326 r327 (iv_wk b329 (by decide)) (by have q := hm18; omega)
        by_cases s330 : x11.toInt = 9
        · refine m_tableIn (tgt := 495) (off := 462) C dL_law_33 (by omega) (by omega) (by rw [s330]; rfl) (by decide) ?_
          have b331 : IV x11 9 9 := ⟨by omega, by omega⟩
          refine m_aload_n C dL_law_495 rfl rfl ?_
          refine m_aload_n C dL_law_496 rfl rfl ?_
          refine m_iload_n C dL_law_497 rfl rfl ?_
          refine m_iconst (v := 1) C dL_law_498 (by decide) ?_
          refine m_iadd C dL_law_499 ?_
          refine m_topi (fun x332 ex332 => ?_)
          have tx332 : x332.toInt = y3.toInt + 1 := by rw [ex332, ti_addv b8 kc_1 (by decide), kt_1]
          have b333 : IV x332 1 3067 := by rw [ex332]; exact iv_add b8 kc_1 (by decide)
          refine m_sld C hX hbl hbA ⟨by omega, by omega⟩ dL_law_500 ?_
          refine m_topi (fun x334 ex334 => ?_)
          refine m_callV (n := 1) (ci := 10) (st := []) C (c_X11_halves l G τ (x334) iτ ) (by decide) (by decide) rfl rfl rfl q3_37 q3_34 q3_35 q3_36 q1_1 (by decide +kernel) rfl (by decide) ⟨by show (250 + 8 * y3.toInt.toNat) + 0 ≤ 600000; omega, by show (5300 + 24 * y3.toInt.toNat) + 0 ≤ 7302250; omega⟩ rfl (Nat.le_of_ble_eq_true rfl) dL_law_501 ?_
          rintro _ τ335 ⟨x338, rfl, i336, f337, b339⟩
          have r342 : Rel τ335 := rτ.call f337 (by decide) (by decide)
          have r343 : RT τ335 := tτ.call f337 (by decide) (by decide)
          show MW p l e _ s m _ below meth c _ 4 G (250 + 8 * y3.toInt.toNat) (5300 + 24 * y3.toInt.toNat) 504 [some (.ref b), some (.ref (G.1 0 0)), some (.ref (G.1 22 0)), some (.int y3)] [.int x338] τ335
          refine m_pop C dL_law_504 rfl ?_
          refine m_aload_n C dL_law_505 rfl rfl ?_
          refine m_aload_n C dL_law_506 rfl rfl ?_
          refine m_iload_n C dL_law_507 rfl rfl ?_
          refine m_iconst (v := 1) C dL_law_508 (by decide) ?_
          refine m_iadd C dL_law_509 ?_
          refine m_topi (fun x344 ex344 => ?_)
          have tx344 : x344.toInt = y3.toInt + 1 := by rw [ex344, ti_addv b8 kc_1 (by decide), kt_1]
          have b345 : IV x344 1 3067 := by rw [ex344]; exact iv_add b8 kc_1 (by decide)
          refine m_sld C hX hbl hbA ⟨by omega, by omega⟩ dL_law_510 ?_
          refine m_eqs (w := x334) (by rw [ex334, show x344.toInt.toNat = x332.toInt.toNat by omega]) ?_
          refine m_callV (n := 1) (ci := 11) (st := []) C (c_X12_halves l G τ335 (x334) i336 ) (by decide) (by decide) rfl rfl rfl q5_63 q5_60 q5_61 q5_62 q1_7 (by decide +kernel) rfl (by decide) ⟨by show (250 + 8 * y3.toInt.toNat) + 0 ≤ 600000; omega, by show (5300 + 24 * y3.toInt.toNat) + 0 ≤ 7302250; omega⟩ rfl (Nat.le_of_ble_eq_true rfl) dL_law_511 ?_
          rintro _ τ346 ⟨x349, rfl, i347, f348, b350⟩
          have r353 : Rel τ346 := r342.call f348 (by decide) (by decide)
          have r354 : RT τ346 := r343.call f348 (by decide) (by decide)
          show MW p l e _ s m _ below meth c _ 4 G (250 + 8 * y3.toInt.toNat) (5300 + 24 * y3.toInt.toNat) 514 [some (.ref b), some (.ref (G.1 0 0)), some (.ref (G.1 22 0)), some (.int y3)] [.int x349] τ346
          refine m_pop C dL_law_514 rfl ?_
          refine m_goto (tgt := 1028) C dL_law_515 (by decide) ?_
          obtain ⟨x355, ex355⟩ : ∃ y : Int32, y = y3 + 6 := ⟨_, rfl⟩
          have tx355 : x355.toInt = y3.toInt + 6 := by rw [ex355, ti_addv b8 kc_6 (by decide), kt_6]
          have b356 : IV x355 6 3072 := by rw [ex355]; exact iv_add b8 kc_6 (by decide)
          refine m_iinc (v := x355) (L1 := [some (.ref b), some (.ref (G.1 0 0)), some (.ref (G.1 22 0)), some (.int x355)]) C dL_law_1028 rfl (by rw [ex355]; rfl) (by decide) rfl rfl ?_
          refine m_goto (tgt := 18) C dL_law_1031 (by decide) ?_
          refine m_widen (c2 := 250 + 8 * x355.toInt.toNat) (s2 := 5300 + 24 * x355.toInt.toNat) (by omega) (by omega) ?_
          exact ih18 τ346 x355 i347 r353 r354 (iv_wk b356 (by decide)) (by have q := hm18; omega)
        by_cases s357 : x11.toInt = 10
        · refine m_tableIn (tgt := 518) (off := 485) C dL_law_33 (by omega) (by omega) (by rw [s357]; rfl) (by decide) ?_
          have b358 : IV x11 10 10 := ⟨by omega, by omega⟩
          refine m_aload_n C dL_law_518 rfl rfl ?_
          refine m_callV (n := 0) (ci := 10) (st := []) C (c_X11_year l G τ  iτ ) (by decide) (by decide) rfl rfl rfl q3_97 q3_94 q3_95 q3_96 q1_1 (by decide +kernel) rfl (by decide) ⟨by show (250 + 8 * y3.toInt.toNat) + 0 ≤ 600000; omega, by show (5300 + 24 * y3.toInt.toNat) + 0 ≤ 7302250; omega⟩ rfl (Nat.le_of_ble_eq_true rfl) dL_law_519 ?_
          rintro _ τ359 ⟨x362, rfl, i360, f361, b363⟩
          have r366 : Rel τ359 := rτ.call f361 (by decide) (by decide)
          have r367 : RT τ359 := tτ.call f361 (by decide) (by decide)
          show MW p l e _ s m _ below meth c _ 4 G (250 + 8 * y3.toInt.toNat) (5300 + 24 * y3.toInt.toNat) 522 [some (.ref b), some (.ref (G.1 0 0)), some (.ref (G.1 22 0)), some (.int y3)] [.int x362] τ359
          refine m_pop C dL_law_522 rfl ?_
          refine m_aload_n C dL_law_523 rfl rfl ?_
          refine m_callV (n := 0) (ci := 11) (st := []) C (c_X12_year l G τ359  i360 ) (by decide) (by decide) rfl rfl rfl q5_103 q5_100 q5_101 q5_102 q1_7 (by decide +kernel) rfl (by decide) ⟨by show (250 + 8 * y3.toInt.toNat) + 0 ≤ 600000; omega, by show (5300 + 24 * y3.toInt.toNat) + 0 ≤ 7302250; omega⟩ rfl (Nat.le_of_ble_eq_true rfl) dL_law_524 ?_
          rintro _ τ368 ⟨x371, rfl, i369, f370, b372⟩
          have r375 : Rel τ368 := r366.call f370 (by decide) (by decide)
          have r376 : RT τ368 := r367.call f370 (by decide) (by decide)
          show MW p l e _ s m _ below meth c _ 4 G (250 + 8 * y3.toInt.toNat) (5300 + 24 * y3.toInt.toNat) 527 [some (.ref b), some (.ref (G.1 0 0)), some (.ref (G.1 22 0)), some (.int y3)] [.int x371] τ368
          refine m_pop C dL_law_527 rfl ?_
          refine m_goto (tgt := 1028) C dL_law_528 (by decide) ?_
          obtain ⟨x377, ex377⟩ : ∃ y : Int32, y = y3 + 6 := ⟨_, rfl⟩
          have tx377 : x377.toInt = y3.toInt + 6 := by rw [ex377, ti_addv b8 kc_6 (by decide), kt_6]
          have b378 : IV x377 6 3072 := by rw [ex377]; exact iv_add b8 kc_6 (by decide)
          refine m_iinc (v := x377) (L1 := [some (.ref b), some (.ref (G.1 0 0)), some (.ref (G.1 22 0)), some (.int x377)]) C dL_law_1028 rfl (by rw [ex377]; rfl) (by decide) rfl rfl ?_
          refine m_goto (tgt := 18) C dL_law_1031 (by decide) ?_
          refine m_widen (c2 := 250 + 8 * x377.toInt.toNat) (s2 := 5300 + 24 * x377.toInt.toNat) (by omega) (by omega) ?_
          exact ih18 τ368 x377 i369 r375 r376 (iv_wk b378 (by decide)) (by have q := hm18; omega)
        by_cases s379 : x11.toInt = 11
        · refine m_tableIn (tgt := 531) (off := 498) C dL_law_33 (by omega) (by omega) (by rw [s379]; rfl) (by decide) ?_
          have b380 : IV x11 11 11 := ⟨by omega, by omega⟩
          refine m_aload_n C dL_law_531 rfl rfl ?_
          refine m_callV (n := 0) (ci := 10) (st := []) C (c_X11_undo l G τ  iτ ) (by decide) (by decide) rfl rfl rfl q3_106 q3_103 q3_104 q3_105 q1_1 (by decide +kernel) rfl (by decide) ⟨by show (250 + 8 * y3.toInt.toNat) + 0 ≤ 600000; omega, by show (5300 + 24 * y3.toInt.toNat) + 0 ≤ 7302250; omega⟩ rfl (Nat.le_of_ble_eq_true rfl) dL_law_532 ?_
          rintro _ τ381 ⟨x384, rfl, i382, f383, b385⟩
          have r388 : Rel τ381 := rτ.call f383 (by decide) (by decide)
          have r389 : RT τ381 := tτ.call f383 (by decide) (by decide)
          show MW p l e _ s m _ below meth c _ 4 G (250 + 8 * y3.toInt.toNat) (5300 + 24 * y3.toInt.toNat) 535 [some (.ref b), some (.ref (G.1 0 0)), some (.ref (G.1 22 0)), some (.int y3)] [.int x384] τ381
          refine m_pop C dL_law_535 rfl ?_
          refine m_aload_n C dL_law_536 rfl rfl ?_
          refine m_callV (n := 0) (ci := 11) (st := []) C (c_X12_undo l G τ381  i382 ) (by decide) (by decide) rfl rfl rfl q5_111 q5_108 q5_109 q5_110 q1_7 (by decide +kernel) rfl (by decide) ⟨by show (250 + 8 * y3.toInt.toNat) + 0 ≤ 600000; omega, by show (5300 + 24 * y3.toInt.toNat) + 0 ≤ 7302250; omega⟩ rfl (Nat.le_of_ble_eq_true rfl) dL_law_537 ?_
          rintro _ τ390 ⟨x393, rfl, i391, f392, b394⟩
          have r397 : Rel τ390 := r388.call f392 (by decide) (by decide)
          have r398 : RT τ390 := r389.call f392 (by decide) (by decide)
          show MW p l e _ s m _ below meth c _ 4 G (250 + 8 * y3.toInt.toNat) (5300 + 24 * y3.toInt.toNat) 540 [some (.ref b), some (.ref (G.1 0 0)), some (.ref (G.1 22 0)), some (.int y3)] [.int x393] τ390
          refine m_pop C dL_law_540 rfl ?_
          refine m_goto (tgt := 1028) C dL_law_541 (by decide) ?_
          obtain ⟨x399, ex399⟩ : ∃ y : Int32, y = y3 + 6 := ⟨_, rfl⟩
          have tx399 : x399.toInt = y3.toInt + 6 := by rw [ex399, ti_addv b8 kc_6 (by decide), kt_6]
          have b400 : IV x399 6 3072 := by rw [ex399]; exact iv_add b8 kc_6 (by decide)
          refine m_iinc (v := x399) (L1 := [some (.ref b), some (.ref (G.1 0 0)), some (.ref (G.1 22 0)), some (.int x399)]) C dL_law_1028 rfl (by rw [ex399]; rfl) (by decide) rfl rfl ?_
          refine m_goto (tgt := 18) C dL_law_1031 (by decide) ?_
          refine m_widen (c2 := 250 + 8 * x399.toInt.toNat) (s2 := 5300 + 24 * x399.toInt.toNat) (by omega) (by omega) ?_
          exact ih18 τ390 x399 i391 r397 r398 (iv_wk b400 (by decide)) (by have q := hm18; omega)
        by_cases s401 : x11.toInt = 12
        · refine m_tableIn (tgt := 544) (off := 511) C dL_law_33 (by omega) (by omega) (by rw [s401]; rfl) (by decide) ?_
          have b402 : IV x11 12 12 := ⟨by omega, by omega⟩
          refine m_aload_n C dL_law_544 rfl rfl ?_
          refine m_aload_n C dL_law_545 rfl rfl ?_
          refine m_iload_n C dL_law_546 rfl rfl ?_
          refine m_iconst (v := 1) C dL_law_547 (by decide) ?_
          refine m_iadd C dL_law_548 ?_
          refine m_topi (fun x403 ex403 => ?_)
          have tx403 : x403.toInt = y3.toInt + 1 := by rw [ex403, ti_addv b8 kc_1 (by decide), kt_1]
          have b404 : IV x403 1 3067 := by rw [ex403]; exact iv_add b8 kc_1 (by decide)
          refine m_sld C hX hbl hbA ⟨by omega, by omega⟩ dL_law_549 ?_
          refine m_topi (fun x405 ex405 => ?_)
          refine m_aload_n C dL_law_550 rfl rfl ?_
          refine m_iload_n C dL_law_551 rfl rfl ?_
          refine m_iconst (v := 2) C dL_law_552 (by decide) ?_
          refine m_iadd C dL_law_553 ?_
          refine m_topi (fun x406 ex406 => ?_)
          have tx406 : x406.toInt = y3.toInt + 2 := by rw [ex406, ti_addv b8 kc_2 (by decide), kt_2]
          have b407 : IV x406 2 3068 := by rw [ex406]; exact iv_add b8 kc_2 (by decide)
          refine m_sld C hX hbl hbA ⟨by omega, by omega⟩ dL_law_554 ?_
          refine m_topi (fun x408 ex408 => ?_)
          refine m_callV (n := 2) (ci := 10) (st := []) C (c_X11_person l G τ (x405) (x408) iτ ) (by decide) (by decide) rfl rfl rfl q3_110 q3_107 q3_108 q3_109 q1_1 (by decide +kernel) rfl (by decide) ⟨by show (250 + 8 * y3.toInt.toNat) + 0 ≤ 600000; omega, by show (5300 + 24 * y3.toInt.toNat) + 0 ≤ 7302250; omega⟩ rfl (Nat.le_of_ble_eq_true rfl) dL_law_555 ?_
          rintro _ τ409 ⟨x412, rfl, i410, f411, b413⟩
          have r416 : Rel τ409 := rτ.call f411 (by decide) (by decide)
          have r417 : RT τ409 := tτ.call f411 (by decide) (by decide)
          show MW p l e _ s m _ below meth c _ 4 G (250 + 8 * y3.toInt.toNat) (5300 + 24 * y3.toInt.toNat) 558 [some (.ref b), some (.ref (G.1 0 0)), some (.ref (G.1 22 0)), some (.int y3)] [.int x412] τ409
          refine m_pop C dL_law_558 rfl ?_
          refine m_aload_n C dL_law_559 rfl rfl ?_
          refine m_aload_n C dL_law_560 rfl rfl ?_
          refine m_iload_n C dL_law_561 rfl rfl ?_
          refine m_iconst (v := 1) C dL_law_562 (by decide) ?_
          refine m_iadd C dL_law_563 ?_
          refine m_topi (fun x418 ex418 => ?_)
          have tx418 : x418.toInt = y3.toInt + 1 := by rw [ex418, ti_addv b8 kc_1 (by decide), kt_1]
          have b419 : IV x418 1 3067 := by rw [ex418]; exact iv_add b8 kc_1 (by decide)
          refine m_sld C hX hbl hbA ⟨by omega, by omega⟩ dL_law_564 ?_
          refine m_eqs (w := x405) (by rw [ex405, show x418.toInt.toNat = x403.toInt.toNat by omega]) ?_
          refine m_aload_n C dL_law_565 rfl rfl ?_
          refine m_iload_n C dL_law_566 rfl rfl ?_
          refine m_iconst (v := 2) C dL_law_567 (by decide) ?_
          refine m_iadd C dL_law_568 ?_
          refine m_topi (fun x420 ex420 => ?_)
          have tx420 : x420.toInt = y3.toInt + 2 := by rw [ex420, ti_addv b8 kc_2 (by decide), kt_2]
          have b421 : IV x420 2 3068 := by rw [ex420]; exact iv_add b8 kc_2 (by decide)
          refine m_sld C hX hbl hbA ⟨by omega, by omega⟩ dL_law_569 ?_
          refine m_eqs (w := x408) (by rw [ex408, show x420.toInt.toNat = x406.toInt.toNat by omega]) ?_
          refine m_callV (n := 2) (ci := 11) (st := []) C (c_X12_person l G τ409 (x405) (x408) i410 ) (by decide) (by decide) rfl rfl rfl q5_115 q5_112 q5_113 q5_114 q1_7 (by decide +kernel) rfl (by decide) ⟨by show (250 + 8 * y3.toInt.toNat) + 0 ≤ 600000; omega, by show (5300 + 24 * y3.toInt.toNat) + 0 ≤ 7302250; omega⟩ rfl (Nat.le_of_ble_eq_true rfl) dL_law_570 ?_
          rintro _ τ422 ⟨x425, rfl, i423, f424, b426⟩
          have r429 : Rel τ422 := r416.call f424 (by decide) (by decide)
          have r430 : RT τ422 := r417.call f424 (by decide) (by decide)
          show MW p l e _ s m _ below meth c _ 4 G (250 + 8 * y3.toInt.toNat) (5300 + 24 * y3.toInt.toNat) 573 [some (.ref b), some (.ref (G.1 0 0)), some (.ref (G.1 22 0)), some (.int y3)] [.int x425] τ422
          refine m_pop C dL_law_573 rfl ?_
          refine m_goto (tgt := 1028) C dL_law_574 (by decide) ?_
          obtain ⟨x431, ex431⟩ : ∃ y : Int32, y = y3 + 6 := ⟨_, rfl⟩
          have tx431 : x431.toInt = y3.toInt + 6 := by rw [ex431, ti_addv b8 kc_6 (by decide), kt_6]
          have b432 : IV x431 6 3072 := by rw [ex431]; exact iv_add b8 kc_6 (by decide)
          refine m_iinc (v := x431) (L1 := [some (.ref b), some (.ref (G.1 0 0)), some (.ref (G.1 22 0)), some (.int x431)]) C dL_law_1028 rfl (by rw [ex431]; rfl) (by decide) rfl rfl ?_
          refine m_goto (tgt := 18) C dL_law_1031 (by decide) ?_
          refine m_widen (c2 := 250 + 8 * x431.toInt.toNat) (s2 := 5300 + 24 * x431.toInt.toNat) (by omega) (by omega) ?_
          exact ih18 τ422 x431 i423 r429 r430 (iv_wk b432 (by decide)) (by have q := hm18; omega)
        by_cases s433 : x11.toInt = 13
        · refine m_tableIn (tgt := 577) (off := 544) C dL_law_33 (by omega) (by omega) (by rw [s433]; rfl) (by decide) ?_
          have b434 : IV x11 13 13 := ⟨by omega, by omega⟩
          refine m_aload_n C dL_law_577 rfl rfl ?_
          refine m_aload_n C dL_law_578 rfl rfl ?_
          refine m_iload_n C dL_law_579 rfl rfl ?_
          refine m_iconst (v := 1) C dL_law_580 (by decide) ?_
          refine m_iadd C dL_law_581 ?_
          refine m_topi (fun x435 ex435 => ?_)
          have tx435 : x435.toInt = y3.toInt + 1 := by rw [ex435, ti_addv b8 kc_1 (by decide), kt_1]
          have b436 : IV x435 1 3067 := by rw [ex435]; exact iv_add b8 kc_1 (by decide)
          refine m_sld C hX hbl hbA ⟨by omega, by omega⟩ dL_law_582 ?_
          refine m_topi (fun x437 ex437 => ?_)
          refine m_callV (n := 1) (ci := 10) (st := []) C (c_X11_lean l G τ (x437) iτ ) (by decide) (by decide) rfl rfl rfl q3_120 q3_117 q3_118 q3_119 q1_1 (by decide +kernel) rfl (by decide) ⟨by show (250 + 8 * y3.toInt.toNat) + 0 ≤ 600000; omega, by show (5300 + 24 * y3.toInt.toNat) + 0 ≤ 7302250; omega⟩ rfl (Nat.le_of_ble_eq_true rfl) dL_law_583 ?_
          rintro _ τ438 ⟨x441, rfl, i439, f440, b442⟩
          have r445 : Rel τ438 := rτ.call f440 (by decide) (by decide)
          have r446 : RT τ438 := tτ.call f440 (by decide) (by decide)
          show MW p l e _ s m _ below meth c _ 4 G (250 + 8 * y3.toInt.toNat) (5300 + 24 * y3.toInt.toNat) 586 [some (.ref b), some (.ref (G.1 0 0)), some (.ref (G.1 22 0)), some (.int y3)] [.int x441] τ438
          refine m_pop C dL_law_586 rfl ?_
          refine m_aload_n C dL_law_587 rfl rfl ?_
          refine m_aload_n C dL_law_588 rfl rfl ?_
          refine m_iload_n C dL_law_589 rfl rfl ?_
          refine m_iconst (v := 1) C dL_law_590 (by decide) ?_
          refine m_iadd C dL_law_591 ?_
          refine m_topi (fun x447 ex447 => ?_)
          have tx447 : x447.toInt = y3.toInt + 1 := by rw [ex447, ti_addv b8 kc_1 (by decide), kt_1]
          have b448 : IV x447 1 3067 := by rw [ex447]; exact iv_add b8 kc_1 (by decide)
          refine m_sld C hX hbl hbA ⟨by omega, by omega⟩ dL_law_592 ?_
          refine m_eqs (w := x437) (by rw [ex437, show x447.toInt.toNat = x435.toInt.toNat by omega]) ?_
          refine m_callV (n := 1) (ci := 11) (st := []) C (c_X12_lean l G τ438 (x437) i439 ) (by decide) (by decide) rfl rfl rfl q5_120 q5_117 q5_118 q5_119 q1_7 (by decide +kernel) rfl (by decide) ⟨by show (250 + 8 * y3.toInt.toNat) + 0 ≤ 600000; omega, by show (5300 + 24 * y3.toInt.toNat) + 0 ≤ 7302250; omega⟩ rfl (Nat.le_of_ble_eq_true rfl) dL_law_593 ?_
          rintro _ τ449 ⟨x452, rfl, i450, f451, b453⟩
          have r456 : Rel τ449 := r445.call f451 (by decide) (by decide)
          have r457 : RT τ449 := r446.call f451 (by decide) (by decide)
          show MW p l e _ s m _ below meth c _ 4 G (250 + 8 * y3.toInt.toNat) (5300 + 24 * y3.toInt.toNat) 596 [some (.ref b), some (.ref (G.1 0 0)), some (.ref (G.1 22 0)), some (.int y3)] [.int x452] τ449
          refine m_pop C dL_law_596 rfl ?_
          refine m_goto (tgt := 1028) C dL_law_597 (by decide) ?_
          obtain ⟨x458, ex458⟩ : ∃ y : Int32, y = y3 + 6 := ⟨_, rfl⟩
          have tx458 : x458.toInt = y3.toInt + 6 := by rw [ex458, ti_addv b8 kc_6 (by decide), kt_6]
          have b459 : IV x458 6 3072 := by rw [ex458]; exact iv_add b8 kc_6 (by decide)
          refine m_iinc (v := x458) (L1 := [some (.ref b), some (.ref (G.1 0 0)), some (.ref (G.1 22 0)), some (.int x458)]) C dL_law_1028 rfl (by rw [ex458]; rfl) (by decide) rfl rfl ?_
          refine m_goto (tgt := 18) C dL_law_1031 (by decide) ?_
          refine m_widen (c2 := 250 + 8 * x458.toInt.toNat) (s2 := 5300 + 24 * x458.toInt.toNat) (by omega) (by omega) ?_
          exact ih18 τ449 x458 i450 r456 r457 (iv_wk b459 (by decide)) (by have q := hm18; omega)
        by_cases s460 : x11.toInt = 14
        · refine m_tableIn (tgt := 600) (off := 567) C dL_law_33 (by omega) (by omega) (by rw [s460]; rfl) (by decide) ?_
          have b461 : IV x11 14 14 := ⟨by omega, by omega⟩
          refine m_aload_n C dL_law_600 rfl rfl ?_
          refine m_aload_n C dL_law_601 rfl rfl ?_
          refine m_iload_n C dL_law_602 rfl rfl ?_
          refine m_iconst (v := 1) C dL_law_603 (by decide) ?_
          refine m_iadd C dL_law_604 ?_
          refine m_topi (fun x462 ex462 => ?_)
          have tx462 : x462.toInt = y3.toInt + 1 := by rw [ex462, ti_addv b8 kc_1 (by decide), kt_1]
          have b463 : IV x462 1 3067 := by rw [ex462]; exact iv_add b8 kc_1 (by decide)
          refine m_sld C hX hbl hbA ⟨by omega, by omega⟩ dL_law_605 ?_
          refine m_topi (fun x464 ex464 => ?_)
          refine m_callV (n := 1) (ci := 10) (st := []) C (c_X11_worst l G τ (x464) iτ ) (by decide) (by decide) rfl rfl rfl q3_125 q3_122 q3_123 q3_124 q1_1 (by decide +kernel) rfl (by decide) ⟨by show (250 + 8 * y3.toInt.toNat) + 0 ≤ 600000; omega, by show (5300 + 24 * y3.toInt.toNat) + 0 ≤ 7302250; omega⟩ rfl (Nat.le_of_ble_eq_true rfl) dL_law_606 ?_
          rintro _ τ465 ⟨x468, rfl, i466, f467, b469⟩
          have r472 : Rel τ465 := rτ.call f467 (by decide) (by decide)
          have r473 : RT τ465 := tτ.call f467 (by decide) (by decide)
          show MW p l e _ s m _ below meth c _ 4 G (250 + 8 * y3.toInt.toNat) (5300 + 24 * y3.toInt.toNat) 609 [some (.ref b), some (.ref (G.1 0 0)), some (.ref (G.1 22 0)), some (.int y3)] [.int x468] τ465
          refine m_pop C dL_law_609 rfl ?_
          refine m_aload_n C dL_law_610 rfl rfl ?_
          refine m_aload_n C dL_law_611 rfl rfl ?_
          refine m_iload_n C dL_law_612 rfl rfl ?_
          refine m_iconst (v := 1) C dL_law_613 (by decide) ?_
          refine m_iadd C dL_law_614 ?_
          refine m_topi (fun x474 ex474 => ?_)
          have tx474 : x474.toInt = y3.toInt + 1 := by rw [ex474, ti_addv b8 kc_1 (by decide), kt_1]
          have b475 : IV x474 1 3067 := by rw [ex474]; exact iv_add b8 kc_1 (by decide)
          refine m_sld C hX hbl hbA ⟨by omega, by omega⟩ dL_law_615 ?_
          refine m_eqs (w := x464) (by rw [ex464, show x474.toInt.toNat = x462.toInt.toNat by omega]) ?_
          refine m_callV (n := 1) (ci := 11) (st := []) C (c_X12_worst l G τ465 (x464) i466 ) (by decide) (by decide) rfl rfl rfl q5_124 q5_121 q5_122 q5_123 q1_7 (by decide +kernel) rfl (by decide) ⟨by show (250 + 8 * y3.toInt.toNat) + 0 ≤ 600000; omega, by show (5300 + 24 * y3.toInt.toNat) + 0 ≤ 7302250; omega⟩ rfl (Nat.le_of_ble_eq_true rfl) dL_law_616 ?_
          rintro _ τ476 ⟨x479, rfl, i477, f478, b480⟩
          have r483 : Rel τ476 := r472.call f478 (by decide) (by decide)
          have r484 : RT τ476 := r473.call f478 (by decide) (by decide)
          show MW p l e _ s m _ below meth c _ 4 G (250 + 8 * y3.toInt.toNat) (5300 + 24 * y3.toInt.toNat) 619 [some (.ref b), some (.ref (G.1 0 0)), some (.ref (G.1 22 0)), some (.int y3)] [.int x479] τ476
          refine m_pop C dL_law_619 rfl ?_
          refine m_goto (tgt := 1028) C dL_law_620 (by decide) ?_
          obtain ⟨x485, ex485⟩ : ∃ y : Int32, y = y3 + 6 := ⟨_, rfl⟩
          have tx485 : x485.toInt = y3.toInt + 6 := by rw [ex485, ti_addv b8 kc_6 (by decide), kt_6]
          have b486 : IV x485 6 3072 := by rw [ex485]; exact iv_add b8 kc_6 (by decide)
          refine m_iinc (v := x485) (L1 := [some (.ref b), some (.ref (G.1 0 0)), some (.ref (G.1 22 0)), some (.int x485)]) C dL_law_1028 rfl (by rw [ex485]; rfl) (by decide) rfl rfl ?_
          refine m_goto (tgt := 18) C dL_law_1031 (by decide) ?_
          refine m_widen (c2 := 250 + 8 * x485.toInt.toNat) (s2 := 5300 + 24 * x485.toInt.toNat) (by omega) (by omega) ?_
          exact ih18 τ476 x485 i477 r483 r484 (iv_wk b486 (by decide)) (by have q := hm18; omega)
        by_cases s487 : x11.toInt = 15
        · refine m_tableIn (tgt := 623) (off := 590) C dL_law_33 (by omega) (by omega) (by rw [s487]; rfl) (by decide) ?_
          have b488 : IV x11 15 15 := ⟨by omega, by omega⟩
          refine m_aload_n C dL_law_623 rfl rfl ?_
          refine m_callV (n := 0) (ci := 10) (st := []) C (c_X11_most l G τ  iτ ) (by decide) (by decide) rfl rfl rfl q3_139 q3_136 q3_137 q3_138 q1_1 (by decide +kernel) rfl (by decide) ⟨by show (250 + 8 * y3.toInt.toNat) + 0 ≤ 600000; omega, by show (5300 + 24 * y3.toInt.toNat) + 0 ≤ 7302250; omega⟩ rfl (Nat.le_of_ble_eq_true rfl) dL_law_624 ?_
          rintro _ τ489 ⟨x492, rfl, i490, f491, b493⟩
          have r496 : Rel τ489 := rτ.call f491 (by decide) (by decide)
          have r497 : RT τ489 := tτ.call f491 (by decide) (by decide)
          show MW p l e _ s m _ below meth c _ 4 G (250 + 8 * y3.toInt.toNat) (5300 + 24 * y3.toInt.toNat) 627 [some (.ref b), some (.ref (G.1 0 0)), some (.ref (G.1 22 0)), some (.int y3)] [.int x492] τ489
          refine m_pop C dL_law_627 rfl ?_
          refine m_aload_n C dL_law_628 rfl rfl ?_
          refine m_callV (n := 0) (ci := 11) (st := []) C (c_X12_most l G τ489  i490 ) (by decide) (by decide) rfl rfl rfl q5_136 q5_133 q5_134 q5_135 q1_7 (by decide +kernel) rfl (by decide) ⟨by show (250 + 8 * y3.toInt.toNat) + 0 ≤ 600000; omega, by show (5300 + 24 * y3.toInt.toNat) + 0 ≤ 7302250; omega⟩ rfl (Nat.le_of_ble_eq_true rfl) dL_law_629 ?_
          rintro _ τ498 ⟨x501, rfl, i499, f500, b502⟩
          have r505 : Rel τ498 := r496.call f500 (by decide) (by decide)
          have r506 : RT τ498 := r497.call f500 (by decide) (by decide)
          show MW p l e _ s m _ below meth c _ 4 G (250 + 8 * y3.toInt.toNat) (5300 + 24 * y3.toInt.toNat) 632 [some (.ref b), some (.ref (G.1 0 0)), some (.ref (G.1 22 0)), some (.int y3)] [.int x501] τ498
          refine m_pop C dL_law_632 rfl ?_
          refine m_goto (tgt := 1028) C dL_law_633 (by decide) ?_
          obtain ⟨x507, ex507⟩ : ∃ y : Int32, y = y3 + 6 := ⟨_, rfl⟩
          have tx507 : x507.toInt = y3.toInt + 6 := by rw [ex507, ti_addv b8 kc_6 (by decide), kt_6]
          have b508 : IV x507 6 3072 := by rw [ex507]; exact iv_add b8 kc_6 (by decide)
          refine m_iinc (v := x507) (L1 := [some (.ref b), some (.ref (G.1 0 0)), some (.ref (G.1 22 0)), some (.int x507)]) C dL_law_1028 rfl (by rw [ex507]; rfl) (by decide) rfl rfl ?_
          refine m_goto (tgt := 18) C dL_law_1031 (by decide) ?_
          refine m_widen (c2 := 250 + 8 * x507.toInt.toNat) (s2 := 5300 + 24 * x507.toInt.toNat) (by omega) (by omega) ?_
          exact ih18 τ498 x507 i499 r505 r506 (iv_wk b508 (by decide)) (by have q := hm18; omega)
        by_cases s509 : x11.toInt = 16
        · refine m_tableIn (tgt := 636) (off := 603) C dL_law_33 (by omega) (by omega) (by rw [s509]; rfl) (by decide) ?_
          have b510 : IV x11 16 16 := ⟨by omega, by omega⟩
          refine m_aload_n C dL_law_636 rfl rfl ?_
          refine m_aload_n C dL_law_637 rfl rfl ?_
          refine m_iload_n C dL_law_638 rfl rfl ?_
          refine m_iconst (v := 1) C dL_law_639 (by decide) ?_
          refine m_iadd C dL_law_640 ?_
          refine m_topi (fun x511 ex511 => ?_)
          have tx511 : x511.toInt = y3.toInt + 1 := by rw [ex511, ti_addv b8 kc_1 (by decide), kt_1]
          have b512 : IV x511 1 3067 := by rw [ex511]; exact iv_add b8 kc_1 (by decide)
          refine m_sld C hX hbl hbA ⟨by omega, by omega⟩ dL_law_641 ?_
          refine m_topi (fun x513 ex513 => ?_)
          refine m_aload_n C dL_law_642 rfl rfl ?_
          refine m_iload_n C dL_law_643 rfl rfl ?_
          refine m_iconst (v := 2) C dL_law_644 (by decide) ?_
          refine m_iadd C dL_law_645 ?_
          refine m_topi (fun x514 ex514 => ?_)
          have tx514 : x514.toInt = y3.toInt + 2 := by rw [ex514, ti_addv b8 kc_2 (by decide), kt_2]
          have b515 : IV x514 2 3068 := by rw [ex514]; exact iv_add b8 kc_2 (by decide)
          refine m_sld C hX hbl hbA ⟨by omega, by omega⟩ dL_law_646 ?_
          refine m_topi (fun x516 ex516 => ?_)
          refine m_aload_n C dL_law_647 rfl rfl ?_
          refine m_iload_n C dL_law_648 rfl rfl ?_
          refine m_iconst (v := 3) C dL_law_649 (by decide) ?_
          refine m_iadd C dL_law_650 ?_
          refine m_topi (fun x517 ex517 => ?_)
          have tx517 : x517.toInt = y3.toInt + 3 := by rw [ex517, ti_addv b8 kc_3 (by decide), kt_3]
          have b518 : IV x517 3 3069 := by rw [ex517]; exact iv_add b8 kc_3 (by decide)
          refine m_sld C hX hbl hbA ⟨by omega, by omega⟩ dL_law_651 ?_
          refine m_topi (fun x519 ex519 => ?_)
          refine m_callV (n := 3) (ci := 10) (st := []) C (c_X11_two l G τ (x513) (x516) (x519) iτ ) (by decide) (by decide) rfl rfl rfl q3_157 q3_154 q3_155 q3_156 q1_1 (by decide +kernel) rfl (by decide) ⟨by show (250 + 8 * y3.toInt.toNat) + 0 ≤ 600000; omega, by show (5300 + 24 * y3.toInt.toNat) + 0 ≤ 7302250; omega⟩ rfl (Nat.le_of_ble_eq_true rfl) dL_law_652 ?_
          rintro _ τ520 ⟨x523, rfl, i521, f522, b524⟩
          have r527 : Rel τ520 := rτ.call f522 (by decide) (by decide)
          have r528 : RT τ520 := tτ.call f522 (by decide) (by decide)
          show MW p l e _ s m _ below meth c _ 4 G (250 + 8 * y3.toInt.toNat) (5300 + 24 * y3.toInt.toNat) 655 [some (.ref b), some (.ref (G.1 0 0)), some (.ref (G.1 22 0)), some (.int y3)] [.int x523] τ520
          refine m_pop C dL_law_655 rfl ?_
          refine m_aload_n C dL_law_656 rfl rfl ?_
          refine m_aload_n C dL_law_657 rfl rfl ?_
          refine m_iload_n C dL_law_658 rfl rfl ?_
          refine m_iconst (v := 1) C dL_law_659 (by decide) ?_
          refine m_iadd C dL_law_660 ?_
          refine m_topi (fun x529 ex529 => ?_)
          have tx529 : x529.toInt = y3.toInt + 1 := by rw [ex529, ti_addv b8 kc_1 (by decide), kt_1]
          have b530 : IV x529 1 3067 := by rw [ex529]; exact iv_add b8 kc_1 (by decide)
          refine m_sld C hX hbl hbA ⟨by omega, by omega⟩ dL_law_661 ?_
          refine m_eqs (w := x513) (by rw [ex513, show x529.toInt.toNat = x511.toInt.toNat by omega]) ?_
          refine m_aload_n C dL_law_662 rfl rfl ?_
          refine m_iload_n C dL_law_663 rfl rfl ?_
          refine m_iconst (v := 2) C dL_law_664 (by decide) ?_
          refine m_iadd C dL_law_665 ?_
          refine m_topi (fun x531 ex531 => ?_)
          have tx531 : x531.toInt = y3.toInt + 2 := by rw [ex531, ti_addv b8 kc_2 (by decide), kt_2]
          have b532 : IV x531 2 3068 := by rw [ex531]; exact iv_add b8 kc_2 (by decide)
          refine m_sld C hX hbl hbA ⟨by omega, by omega⟩ dL_law_666 ?_
          refine m_eqs (w := x516) (by rw [ex516, show x531.toInt.toNat = x514.toInt.toNat by omega]) ?_
          refine m_aload_n C dL_law_667 rfl rfl ?_
          refine m_iload_n C dL_law_668 rfl rfl ?_
          refine m_iconst (v := 3) C dL_law_669 (by decide) ?_
          refine m_iadd C dL_law_670 ?_
          refine m_topi (fun x533 ex533 => ?_)
          have tx533 : x533.toInt = y3.toInt + 3 := by rw [ex533, ti_addv b8 kc_3 (by decide), kt_3]
          have b534 : IV x533 3 3069 := by rw [ex533]; exact iv_add b8 kc_3 (by decide)
          refine m_sld C hX hbl hbA ⟨by omega, by omega⟩ dL_law_671 ?_
          refine m_eqs (w := x519) (by rw [ex519, show x533.toInt.toNat = x517.toInt.toNat by omega]) ?_
          refine m_callV (n := 3) (ci := 11) (st := []) C (c_X12_two l G τ520 (x513) (x516) (x519) i521 ) (by decide) (by decide) rfl rfl rfl q5_146 q5_143 q5_144 q5_145 q1_7 (by decide +kernel) rfl (by decide) ⟨by show (250 + 8 * y3.toInt.toNat) + 0 ≤ 600000; omega, by show (5300 + 24 * y3.toInt.toNat) + 0 ≤ 7302250; omega⟩ rfl (Nat.le_of_ble_eq_true rfl) dL_law_672 ?_
          rintro _ τ535 ⟨x538, rfl, i536, f537, b539⟩
          have r542 : Rel τ535 := r527.call f537 (by decide) (by decide)
          have r543 : RT τ535 := r528.call f537 (by decide) (by decide)
          show MW p l e _ s m _ below meth c _ 4 G (250 + 8 * y3.toInt.toNat) (5300 + 24 * y3.toInt.toNat) 675 [some (.ref b), some (.ref (G.1 0 0)), some (.ref (G.1 22 0)), some (.int y3)] [.int x538] τ535
          refine m_pop C dL_law_675 rfl ?_
          refine m_goto (tgt := 1028) C dL_law_676 (by decide) ?_
          obtain ⟨x544, ex544⟩ : ∃ y : Int32, y = y3 + 6 := ⟨_, rfl⟩
          have tx544 : x544.toInt = y3.toInt + 6 := by rw [ex544, ti_addv b8 kc_6 (by decide), kt_6]
          have b545 : IV x544 6 3072 := by rw [ex544]; exact iv_add b8 kc_6 (by decide)
          refine m_iinc (v := x544) (L1 := [some (.ref b), some (.ref (G.1 0 0)), some (.ref (G.1 22 0)), some (.int x544)]) C dL_law_1028 rfl (by rw [ex544]; rfl) (by decide) rfl rfl ?_
          refine m_goto (tgt := 18) C dL_law_1031 (by decide) ?_
          refine m_widen (c2 := 250 + 8 * x544.toInt.toNat) (s2 := 5300 + 24 * x544.toInt.toNat) (by omega) (by omega) ?_
          exact ih18 τ535 x544 i536 r542 r543 (iv_wk b545 (by decide)) (by have q := hm18; omega)
        by_cases s546 : x11.toInt = 17
        · refine m_tableIn (tgt := 679) (off := 646) C dL_law_33 (by omega) (by omega) (by rw [s546]; rfl) (by decide) ?_
          have b547 : IV x11 17 17 := ⟨by omega, by omega⟩
          refine m_aload_n C dL_law_679 rfl rfl ?_
          refine m_aload_n C dL_law_680 rfl rfl ?_
          refine m_iload_n C dL_law_681 rfl rfl ?_
          refine m_iconst (v := 1) C dL_law_682 (by decide) ?_
          refine m_iadd C dL_law_683 ?_
          refine m_topi (fun x548 ex548 => ?_)
          have tx548 : x548.toInt = y3.toInt + 1 := by rw [ex548, ti_addv b8 kc_1 (by decide), kt_1]
          have b549 : IV x548 1 3067 := by rw [ex548]; exact iv_add b8 kc_1 (by decide)
          refine m_sld C hX hbl hbA ⟨by omega, by omega⟩ dL_law_684 ?_
          refine m_topi (fun x550 ex550 => ?_)
          refine m_callV (n := 1) (ci := 10) (st := []) C (c_X11_stones l G τ (x550) iτ ) (by decide) (by decide) rfl rfl rfl q3_170 q3_167 q3_168 q3_169 q1_1 (by decide +kernel) rfl (by decide) ⟨by show (250 + 8 * y3.toInt.toNat) + 0 ≤ 600000; omega, by show (5300 + 24 * y3.toInt.toNat) + 0 ≤ 7302250; omega⟩ rfl (Nat.le_of_ble_eq_true rfl) dL_law_685 ?_
          rintro _ τ551 ⟨x554, rfl, i552, f553, b555⟩
          have r558 : Rel τ551 := rτ.call f553 (by decide) (by decide)
          have r559 : RT τ551 := tτ.call f553 (by decide) (by decide)
          show MW p l e _ s m _ below meth c _ 4 G (250 + 8 * y3.toInt.toNat) (5300 + 24 * y3.toInt.toNat) 688 [some (.ref b), some (.ref (G.1 0 0)), some (.ref (G.1 22 0)), some (.int y3)] [.int x554] τ551
          refine m_pop C dL_law_688 rfl ?_
          refine m_aload_n C dL_law_689 rfl rfl ?_
          refine m_aload_n C dL_law_690 rfl rfl ?_
          refine m_iload_n C dL_law_691 rfl rfl ?_
          refine m_iconst (v := 1) C dL_law_692 (by decide) ?_
          refine m_iadd C dL_law_693 ?_
          refine m_topi (fun x560 ex560 => ?_)
          have tx560 : x560.toInt = y3.toInt + 1 := by rw [ex560, ti_addv b8 kc_1 (by decide), kt_1]
          have b561 : IV x560 1 3067 := by rw [ex560]; exact iv_add b8 kc_1 (by decide)
          refine m_sld C hX hbl hbA ⟨by omega, by omega⟩ dL_law_694 ?_
          refine m_eqs (w := x550) (by rw [ex550, show x560.toInt.toNat = x548.toInt.toNat by omega]) ?_
          refine m_callV (n := 1) (ci := 11) (st := []) C (c_X12_stones l G τ551 (x550) i552 ) (by decide) (by decide) rfl rfl rfl q5_150 q5_147 q5_148 q5_149 q1_7 (by decide +kernel) rfl (by decide) ⟨by show (250 + 8 * y3.toInt.toNat) + 0 ≤ 600000; omega, by show (5300 + 24 * y3.toInt.toNat) + 0 ≤ 7302250; omega⟩ rfl (Nat.le_of_ble_eq_true rfl) dL_law_695 ?_
          rintro _ τ562 ⟨x565, rfl, i563, f564, b566⟩
          have r569 : Rel τ562 := r558.call f564 (by decide) (by decide)
          have r570 : RT τ562 := r559.call f564 (by decide) (by decide)
          show MW p l e _ s m _ below meth c _ 4 G (250 + 8 * y3.toInt.toNat) (5300 + 24 * y3.toInt.toNat) 698 [some (.ref b), some (.ref (G.1 0 0)), some (.ref (G.1 22 0)), some (.int y3)] [.int x565] τ562
          refine m_pop C dL_law_698 rfl ?_
          refine m_goto (tgt := 1028) C dL_law_699 (by decide) ?_
          obtain ⟨x571, ex571⟩ : ∃ y : Int32, y = y3 + 6 := ⟨_, rfl⟩
          have tx571 : x571.toInt = y3.toInt + 6 := by rw [ex571, ti_addv b8 kc_6 (by decide), kt_6]
          have b572 : IV x571 6 3072 := by rw [ex571]; exact iv_add b8 kc_6 (by decide)
          refine m_iinc (v := x571) (L1 := [some (.ref b), some (.ref (G.1 0 0)), some (.ref (G.1 22 0)), some (.int x571)]) C dL_law_1028 rfl (by rw [ex571]; rfl) (by decide) rfl rfl ?_
          refine m_goto (tgt := 18) C dL_law_1031 (by decide) ?_
          refine m_widen (c2 := 250 + 8 * x571.toInt.toNat) (s2 := 5300 + 24 * x571.toInt.toNat) (by omega) (by omega) ?_
          exact ih18 τ562 x571 i563 r569 r570 (iv_wk b572 (by decide)) (by have q := hm18; omega)
        by_cases s573 : x11.toInt = 18
        · refine m_tableIn (tgt := 702) (off := 669) C dL_law_33 (by omega) (by omega) (by rw [s573]; rfl) (by decide) ?_
          have b574 : IV x11 18 18 := ⟨by omega, by omega⟩
          refine m_aload_n C dL_law_702 rfl rfl ?_
          refine m_aload_n C dL_law_703 rfl rfl ?_
          refine m_iload_n C dL_law_704 rfl rfl ?_
          refine m_iconst (v := 1) C dL_law_705 (by decide) ?_
          refine m_iadd C dL_law_706 ?_
          refine m_topi (fun x575 ex575 => ?_)
          have tx575 : x575.toInt = y3.toInt + 1 := by rw [ex575, ti_addv b8 kc_1 (by decide), kt_1]
          have b576 : IV x575 1 3067 := by rw [ex575]; exact iv_add b8 kc_1 (by decide)
          refine m_sld C hX hbl hbA ⟨by omega, by omega⟩ dL_law_707 ?_
          refine m_topi (fun x577 ex577 => ?_)
          refine m_aload_n C dL_law_708 rfl rfl ?_
          refine m_iload_n C dL_law_709 rfl rfl ?_
          refine m_iconst (v := 2) C dL_law_710 (by decide) ?_
          refine m_iadd C dL_law_711 ?_
          refine m_topi (fun x578 ex578 => ?_)
          have tx578 : x578.toInt = y3.toInt + 2 := by rw [ex578, ti_addv b8 kc_2 (by decide), kt_2]
          have b579 : IV x578 2 3068 := by rw [ex578]; exact iv_add b8 kc_2 (by decide)
          refine m_sld C hX hbl hbA ⟨by omega, by omega⟩ dL_law_712 ?_
          refine m_topi (fun x580 ex580 => ?_)
          refine m_aload_n C dL_law_713 rfl rfl ?_
          refine m_iload_n C dL_law_714 rfl rfl ?_
          refine m_iconst (v := 3) C dL_law_715 (by decide) ?_
          refine m_iadd C dL_law_716 ?_
          refine m_topi (fun x581 ex581 => ?_)
          have tx581 : x581.toInt = y3.toInt + 3 := by rw [ex581, ti_addv b8 kc_3 (by decide), kt_3]
          have b582 : IV x581 3 3069 := by rw [ex581]; exact iv_add b8 kc_3 (by decide)
          refine m_sld C hX hbl hbA ⟨by omega, by omega⟩ dL_law_717 ?_
          refine m_topi (fun x583 ex583 => ?_)
          refine m_aload_n C dL_law_718 rfl rfl ?_
          refine m_iload_n C dL_law_719 rfl rfl ?_
          refine m_iconst (v := 4) C dL_law_720 (by decide) ?_
          refine m_iadd C dL_law_721 ?_
          refine m_topi (fun x584 ex584 => ?_)
          have tx584 : x584.toInt = y3.toInt + 4 := by rw [ex584, ti_addv b8 kc_4 (by decide), kt_4]
          have b585 : IV x584 4 3070 := by rw [ex584]; exact iv_add b8 kc_4 (by decide)
          refine m_sld C hX hbl hbA ⟨by omega, by omega⟩ dL_law_722 ?_
          refine m_topi (fun x586 ex586 => ?_)
          refine m_callV (n := 4) (ci := 10) (st := []) C (c_X11_marks l G τ (x577) (x580) (x583) (x586) iτ ) (by decide) (by decide) rfl rfl rfl q3_187 q3_184 q3_185 q3_186 q1_1 (by decide +kernel) rfl (by decide) ⟨by show (250 + 8 * y3.toInt.toNat) + 0 ≤ 600000; omega, by show (5300 + 24 * y3.toInt.toNat) + 0 ≤ 7302250; omega⟩ rfl (Nat.le_of_ble_eq_true rfl) dL_law_723 ?_
          rintro _ τ587 ⟨x590, rfl, i588, f589, b591⟩
          have r594 : Rel τ587 := rτ.call f589 (by decide) (by decide)
          have r595 : RT τ587 := tτ.call f589 (by decide) (by decide)
          show MW p l e _ s m _ below meth c _ 4 G (250 + 8 * y3.toInt.toNat) (5300 + 24 * y3.toInt.toNat) 726 [some (.ref b), some (.ref (G.1 0 0)), some (.ref (G.1 22 0)), some (.int y3)] [.int x590] τ587
          refine m_pop C dL_law_726 rfl ?_
          refine m_aload_n C dL_law_727 rfl rfl ?_
          refine m_aload_n C dL_law_728 rfl rfl ?_
          refine m_iload_n C dL_law_729 rfl rfl ?_
          refine m_iconst (v := 1) C dL_law_730 (by decide) ?_
          refine m_iadd C dL_law_731 ?_
          refine m_topi (fun x596 ex596 => ?_)
          have tx596 : x596.toInt = y3.toInt + 1 := by rw [ex596, ti_addv b8 kc_1 (by decide), kt_1]
          have b597 : IV x596 1 3067 := by rw [ex596]; exact iv_add b8 kc_1 (by decide)
          refine m_sld C hX hbl hbA ⟨by omega, by omega⟩ dL_law_732 ?_
          refine m_eqs (w := x577) (by rw [ex577, show x596.toInt.toNat = x575.toInt.toNat by omega]) ?_
          refine m_aload_n C dL_law_733 rfl rfl ?_
          refine m_iload_n C dL_law_734 rfl rfl ?_
          refine m_iconst (v := 2) C dL_law_735 (by decide) ?_
          refine m_iadd C dL_law_736 ?_
          refine m_topi (fun x598 ex598 => ?_)
          have tx598 : x598.toInt = y3.toInt + 2 := by rw [ex598, ti_addv b8 kc_2 (by decide), kt_2]
          have b599 : IV x598 2 3068 := by rw [ex598]; exact iv_add b8 kc_2 (by decide)
          refine m_sld C hX hbl hbA ⟨by omega, by omega⟩ dL_law_737 ?_
          refine m_eqs (w := x580) (by rw [ex580, show x598.toInt.toNat = x578.toInt.toNat by omega]) ?_
          refine m_aload_n C dL_law_738 rfl rfl ?_
          refine m_iload_n C dL_law_739 rfl rfl ?_
          refine m_iconst (v := 3) C dL_law_740 (by decide) ?_
          refine m_iadd C dL_law_741 ?_
          refine m_topi (fun x600 ex600 => ?_)
          have tx600 : x600.toInt = y3.toInt + 3 := by rw [ex600, ti_addv b8 kc_3 (by decide), kt_3]
          have b601 : IV x600 3 3069 := by rw [ex600]; exact iv_add b8 kc_3 (by decide)
          refine m_sld C hX hbl hbA ⟨by omega, by omega⟩ dL_law_742 ?_
          refine m_eqs (w := x583) (by rw [ex583, show x600.toInt.toNat = x581.toInt.toNat by omega]) ?_
          refine m_aload_n C dL_law_743 rfl rfl ?_
          refine m_iload_n C dL_law_744 rfl rfl ?_
          refine m_iconst (v := 4) C dL_law_745 (by decide) ?_
          refine m_iadd C dL_law_746 ?_
          refine m_topi (fun x602 ex602 => ?_)
          have tx602 : x602.toInt = y3.toInt + 4 := by rw [ex602, ti_addv b8 kc_4 (by decide), kt_4]
          have b603 : IV x602 4 3070 := by rw [ex602]; exact iv_add b8 kc_4 (by decide)
          refine m_sld C hX hbl hbA ⟨by omega, by omega⟩ dL_law_747 ?_
          refine m_eqs (w := x586) (by rw [ex586, show x602.toInt.toNat = x584.toInt.toNat by omega]) ?_
          refine m_callV (n := 4) (ci := 11) (st := []) C (c_X12_marks l G τ587 (x577) (x580) (x583) (x586) i588 ) (by decide) (by decide) rfl rfl rfl q5_154 q5_151 q5_152 q5_153 q1_7 (by decide +kernel) rfl (by decide) ⟨by show (250 + 8 * y3.toInt.toNat) + 0 ≤ 600000; omega, by show (5300 + 24 * y3.toInt.toNat) + 0 ≤ 7302250; omega⟩ rfl (Nat.le_of_ble_eq_true rfl) dL_law_748 ?_
          rintro _ τ604 ⟨x607, rfl, i605, f606, b608⟩
          have r611 : Rel τ604 := r594.call f606 (by decide) (by decide)
          have r612 : RT τ604 := r595.call f606 (by decide) (by decide)
          show MW p l e _ s m _ below meth c _ 4 G (250 + 8 * y3.toInt.toNat) (5300 + 24 * y3.toInt.toNat) 751 [some (.ref b), some (.ref (G.1 0 0)), some (.ref (G.1 22 0)), some (.int y3)] [.int x607] τ604
          refine m_pop C dL_law_751 rfl ?_
          refine m_goto (tgt := 1028) C dL_law_752 (by decide) ?_
          obtain ⟨x613, ex613⟩ : ∃ y : Int32, y = y3 + 6 := ⟨_, rfl⟩
          have tx613 : x613.toInt = y3.toInt + 6 := by rw [ex613, ti_addv b8 kc_6 (by decide), kt_6]
          have b614 : IV x613 6 3072 := by rw [ex613]; exact iv_add b8 kc_6 (by decide)
          refine m_iinc (v := x613) (L1 := [some (.ref b), some (.ref (G.1 0 0)), some (.ref (G.1 22 0)), some (.int x613)]) C dL_law_1028 rfl (by rw [ex613]; rfl) (by decide) rfl rfl ?_
          refine m_goto (tgt := 18) C dL_law_1031 (by decide) ?_
          refine m_widen (c2 := 250 + 8 * x613.toInt.toNat) (s2 := 5300 + 24 * x613.toInt.toNat) (by omega) (by omega) ?_
          exact ih18 τ604 x613 i605 r611 r612 (iv_wk b614 (by decide)) (by have q := hm18; omega)
        by_cases s615 : x11.toInt = 19
        · refine m_tableIn (tgt := 755) (off := 722) C dL_law_33 (by omega) (by omega) (by rw [s615]; rfl) (by decide) ?_
          have b616 : IV x11 19 19 := ⟨by omega, by omega⟩
          refine m_aload_n C dL_law_755 rfl rfl ?_
          refine m_aload_n C dL_law_756 rfl rfl ?_
          refine m_iload_n C dL_law_757 rfl rfl ?_
          refine m_iconst (v := 1) C dL_law_758 (by decide) ?_
          refine m_iadd C dL_law_759 ?_
          refine m_topi (fun x617 ex617 => ?_)
          have tx617 : x617.toInt = y3.toInt + 1 := by rw [ex617, ti_addv b8 kc_1 (by decide), kt_1]
          have b618 : IV x617 1 3067 := by rw [ex617]; exact iv_add b8 kc_1 (by decide)
          refine m_sld C hX hbl hbA ⟨by omega, by omega⟩ dL_law_760 ?_
          refine m_topi (fun x619 ex619 => ?_)
          refine m_callV (n := 1) (ci := 10) (st := []) C (c_X11_rescue l G τ (x619) iτ ) (by decide) (by decide) rfl rfl rfl q3_202 q3_199 q3_200 q3_201 q1_1 (by decide +kernel) rfl (by decide) ⟨by show (250 + 8 * y3.toInt.toNat) + 0 ≤ 600000; omega, by show (5300 + 24 * y3.toInt.toNat) + 0 ≤ 7302250; omega⟩ rfl (Nat.le_of_ble_eq_true rfl) dL_law_761 ?_
          rintro _ τ620 ⟨x623, rfl, i621, f622, b624⟩
          have r627 : Rel τ620 := rτ.call f622 (by decide) (by decide)
          have r628 : RT τ620 := tτ.call f622 (by decide) (by decide)
          show MW p l e _ s m _ below meth c _ 4 G (250 + 8 * y3.toInt.toNat) (5300 + 24 * y3.toInt.toNat) 764 [some (.ref b), some (.ref (G.1 0 0)), some (.ref (G.1 22 0)), some (.int y3)] [.int x623] τ620
          refine m_pop C dL_law_764 rfl ?_
          refine m_aload_n C dL_law_765 rfl rfl ?_
          refine m_aload_n C dL_law_766 rfl rfl ?_
          refine m_iload_n C dL_law_767 rfl rfl ?_
          refine m_iconst (v := 1) C dL_law_768 (by decide) ?_
          refine m_iadd C dL_law_769 ?_
          refine m_topi (fun x629 ex629 => ?_)
          have tx629 : x629.toInt = y3.toInt + 1 := by rw [ex629, ti_addv b8 kc_1 (by decide), kt_1]
          have b630 : IV x629 1 3067 := by rw [ex629]; exact iv_add b8 kc_1 (by decide)
          refine m_sld C hX hbl hbA ⟨by omega, by omega⟩ dL_law_770 ?_
          refine m_eqs (w := x619) (by rw [ex619, show x629.toInt.toNat = x617.toInt.toNat by omega]) ?_
          refine m_callV (n := 1) (ci := 11) (st := []) C (c_X12_rescue l G τ620 (x619) i621 ) (by decide) (by decide) rfl rfl rfl q5_160 q5_157 q5_158 q5_159 q1_7 (by decide +kernel) rfl (by decide) ⟨by show (250 + 8 * y3.toInt.toNat) + 0 ≤ 600000; omega, by show (5300 + 24 * y3.toInt.toNat) + 0 ≤ 7302250; omega⟩ rfl (Nat.le_of_ble_eq_true rfl) dL_law_771 ?_
          rintro _ τ631 ⟨x634, rfl, i632, f633, b635⟩
          have r638 : Rel τ631 := r627.call f633 (by decide) (by decide)
          have r639 : RT τ631 := r628.call f633 (by decide) (by decide)
          show MW p l e _ s m _ below meth c _ 4 G (250 + 8 * y3.toInt.toNat) (5300 + 24 * y3.toInt.toNat) 774 [some (.ref b), some (.ref (G.1 0 0)), some (.ref (G.1 22 0)), some (.int y3)] [.int x634] τ631
          refine m_pop C dL_law_774 rfl ?_
          refine m_goto (tgt := 1028) C dL_law_775 (by decide) ?_
          obtain ⟨x640, ex640⟩ : ∃ y : Int32, y = y3 + 6 := ⟨_, rfl⟩
          have tx640 : x640.toInt = y3.toInt + 6 := by rw [ex640, ti_addv b8 kc_6 (by decide), kt_6]
          have b641 : IV x640 6 3072 := by rw [ex640]; exact iv_add b8 kc_6 (by decide)
          refine m_iinc (v := x640) (L1 := [some (.ref b), some (.ref (G.1 0 0)), some (.ref (G.1 22 0)), some (.int x640)]) C dL_law_1028 rfl (by rw [ex640]; rfl) (by decide) rfl rfl ?_
          refine m_goto (tgt := 18) C dL_law_1031 (by decide) ?_
          refine m_widen (c2 := 250 + 8 * x640.toInt.toNat) (s2 := 5300 + 24 * x640.toInt.toNat) (by omega) (by omega) ?_
          exact ih18 τ631 x640 i632 r638 r639 (iv_wk b641 (by decide)) (by have q := hm18; omega)
        by_cases s642 : x11.toInt = 20
        · refine m_tableIn (tgt := 778) (off := 745) C dL_law_33 (by omega) (by omega) (by rw [s642]; rfl) (by decide) ?_
          have b643 : IV x11 20 20 := ⟨by omega, by omega⟩
          refine m_aload_n C dL_law_778 rfl rfl ?_
          refine m_callV (n := 0) (ci := 10) (st := []) C (c_X11_fall l G τ  iτ ) (by decide) (by decide) rfl rfl rfl q3_220 q3_217 q3_218 q3_219 q1_1 (by decide +kernel) rfl (by decide) ⟨by show (250 + 8 * y3.toInt.toNat) + 0 ≤ 600000; omega, by show (5300 + 24 * y3.toInt.toNat) + 0 ≤ 7302250; omega⟩ rfl (Nat.le_of_ble_eq_true rfl) dL_law_779 ?_
          rintro _ τ644 ⟨x647, rfl, i645, f646, b648⟩
          have r651 : Rel τ644 := rτ.call f646 (by decide) (by decide)
          have r652 : RT τ644 := tτ.call f646 (by decide) (by decide)
          show MW p l e _ s m _ below meth c _ 4 G (250 + 8 * y3.toInt.toNat) (5300 + 24 * y3.toInt.toNat) 782 [some (.ref b), some (.ref (G.1 0 0)), some (.ref (G.1 22 0)), some (.int y3)] [.int x647] τ644
          refine m_pop C dL_law_782 rfl ?_
          refine m_aload_n C dL_law_783 rfl rfl ?_
          refine m_callV (n := 0) (ci := 11) (st := []) C (c_X12_fall l G τ644  i645 ) (by decide) (by decide) rfl rfl rfl q5_168 q5_165 q5_166 q5_167 q1_7 (by decide +kernel) rfl (by decide) ⟨by show (250 + 8 * y3.toInt.toNat) + 0 ≤ 600000; omega, by show (5300 + 24 * y3.toInt.toNat) + 0 ≤ 7302250; omega⟩ rfl (Nat.le_of_ble_eq_true rfl) dL_law_784 ?_
          rintro _ τ653 ⟨x656, rfl, i654, f655, b657⟩
          have r660 : Rel τ653 := r651.call f655 (by decide) (by decide)
          have r661 : RT τ653 := r652.call f655 (by decide) (by decide)
          show MW p l e _ s m _ below meth c _ 4 G (250 + 8 * y3.toInt.toNat) (5300 + 24 * y3.toInt.toNat) 787 [some (.ref b), some (.ref (G.1 0 0)), some (.ref (G.1 22 0)), some (.int y3)] [.int x656] τ653
          refine m_pop C dL_law_787 rfl ?_
          refine m_goto (tgt := 1028) C dL_law_788 (by decide) ?_
          obtain ⟨x662, ex662⟩ : ∃ y : Int32, y = y3 + 6 := ⟨_, rfl⟩
          have tx662 : x662.toInt = y3.toInt + 6 := by rw [ex662, ti_addv b8 kc_6 (by decide), kt_6]
          have b663 : IV x662 6 3072 := by rw [ex662]; exact iv_add b8 kc_6 (by decide)
          refine m_iinc (v := x662) (L1 := [some (.ref b), some (.ref (G.1 0 0)), some (.ref (G.1 22 0)), some (.int x662)]) C dL_law_1028 rfl (by rw [ex662]; rfl) (by decide) rfl rfl ?_
          refine m_goto (tgt := 18) C dL_law_1031 (by decide) ?_
          refine m_widen (c2 := 250 + 8 * x662.toInt.toNat) (s2 := 5300 + 24 * x662.toInt.toNat) (by omega) (by omega) ?_
          exact ih18 τ653 x662 i654 r660 r661 (iv_wk b663 (by decide)) (by have q := hm18; omega)
        by_cases s664 : x11.toInt = 21
        · refine m_tableIn (tgt := 791) (off := 758) C dL_law_33 (by omega) (by omega) (by rw [s664]; rfl) (by decide) ?_
          have b665 : IV x11 21 21 := ⟨by omega, by omega⟩
          refine m_aload_n C dL_law_791 rfl rfl ?_
          refine m_aload_n C dL_law_792 rfl rfl ?_
          refine m_iload_n C dL_law_793 rfl rfl ?_
          refine m_iconst (v := 1) C dL_law_794 (by decide) ?_
          refine m_iadd C dL_law_795 ?_
          refine m_topi (fun x666 ex666 => ?_)
          have tx666 : x666.toInt = y3.toInt + 1 := by rw [ex666, ti_addv b8 kc_1 (by decide), kt_1]
          have b667 : IV x666 1 3067 := by rw [ex666]; exact iv_add b8 kc_1 (by decide)
          refine m_sld C hX hbl hbA ⟨by omega, by omega⟩ dL_law_796 ?_
          refine m_topi (fun x668 ex668 => ?_)
          refine m_aload_n C dL_law_797 rfl rfl ?_
          refine m_iload_n C dL_law_798 rfl rfl ?_
          refine m_iconst (v := 2) C dL_law_799 (by decide) ?_
          refine m_iadd C dL_law_800 ?_
          refine m_topi (fun x669 ex669 => ?_)
          have tx669 : x669.toInt = y3.toInt + 2 := by rw [ex669, ti_addv b8 kc_2 (by decide), kt_2]
          have b670 : IV x669 2 3068 := by rw [ex669]; exact iv_add b8 kc_2 (by decide)
          refine m_sld C hX hbl hbA ⟨by omega, by omega⟩ dL_law_801 ?_
          refine m_topi (fun x671 ex671 => ?_)
          refine m_aload_n C dL_law_802 rfl rfl ?_
          refine m_iload_n C dL_law_803 rfl rfl ?_
          refine m_iconst (v := 3) C dL_law_804 (by decide) ?_
          refine m_iadd C dL_law_805 ?_
          refine m_topi (fun x672 ex672 => ?_)
          have tx672 : x672.toInt = y3.toInt + 3 := by rw [ex672, ti_addv b8 kc_3 (by decide), kt_3]
          have b673 : IV x672 3 3069 := by rw [ex672]; exact iv_add b8 kc_3 (by decide)
          refine m_sld C hX hbl hbA ⟨by omega, by omega⟩ dL_law_806 ?_
          refine m_topi (fun x674 ex674 => ?_)
          refine m_callV (n := 3) (ci := 10) (st := []) C (c_X11_bells l G τ (x668) (x671) (x674) iτ ) (by decide) (by decide) rfl rfl rfl q3_224 q3_221 q3_222 q3_223 q1_1 (by decide +kernel) rfl (by decide) ⟨by show (250 + 8 * y3.toInt.toNat) + 0 ≤ 600000; omega, by show (5300 + 24 * y3.toInt.toNat) + 0 ≤ 7302250; omega⟩ rfl (Nat.le_of_ble_eq_true rfl) dL_law_807 ?_
          rintro _ τ675 ⟨x678, rfl, i676, f677, b679⟩
          have r682 : Rel τ675 := rτ.call f677 (by decide) (by decide)
          have r683 : RT τ675 := tτ.call f677 (by decide) (by decide)
          show MW p l e _ s m _ below meth c _ 4 G (250 + 8 * y3.toInt.toNat) (5300 + 24 * y3.toInt.toNat) 810 [some (.ref b), some (.ref (G.1 0 0)), some (.ref (G.1 22 0)), some (.int y3)] [.int x678] τ675
          refine m_pop C dL_law_810 rfl ?_
          refine m_aload_n C dL_law_811 rfl rfl ?_
          refine m_aload_n C dL_law_812 rfl rfl ?_
          refine m_iload_n C dL_law_813 rfl rfl ?_
          refine m_iconst (v := 1) C dL_law_814 (by decide) ?_
          refine m_iadd C dL_law_815 ?_
          refine m_topi (fun x684 ex684 => ?_)
          have tx684 : x684.toInt = y3.toInt + 1 := by rw [ex684, ti_addv b8 kc_1 (by decide), kt_1]
          have b685 : IV x684 1 3067 := by rw [ex684]; exact iv_add b8 kc_1 (by decide)
          refine m_sld C hX hbl hbA ⟨by omega, by omega⟩ dL_law_816 ?_
          refine m_eqs (w := x668) (by rw [ex668, show x684.toInt.toNat = x666.toInt.toNat by omega]) ?_
          refine m_aload_n C dL_law_817 rfl rfl ?_
          refine m_iload_n C dL_law_818 rfl rfl ?_
          refine m_iconst (v := 2) C dL_law_819 (by decide) ?_
          refine m_iadd C dL_law_820 ?_
          refine m_topi (fun x686 ex686 => ?_)
          have tx686 : x686.toInt = y3.toInt + 2 := by rw [ex686, ti_addv b8 kc_2 (by decide), kt_2]
          have b687 : IV x686 2 3068 := by rw [ex686]; exact iv_add b8 kc_2 (by decide)
          refine m_sld C hX hbl hbA ⟨by omega, by omega⟩ dL_law_821 ?_
          refine m_eqs (w := x671) (by rw [ex671, show x686.toInt.toNat = x669.toInt.toNat by omega]) ?_
          refine m_aload_n C dL_law_822 rfl rfl ?_
          refine m_iload_n C dL_law_823 rfl rfl ?_
          refine m_iconst (v := 3) C dL_law_824 (by decide) ?_
          refine m_iadd C dL_law_825 ?_
          refine m_topi (fun x688 ex688 => ?_)
          have tx688 : x688.toInt = y3.toInt + 3 := by rw [ex688, ti_addv b8 kc_3 (by decide), kt_3]
          have b689 : IV x688 3 3069 := by rw [ex688]; exact iv_add b8 kc_3 (by decide)
          refine m_sld C hX hbl hbA ⟨by omega, by omega⟩ dL_law_826 ?_
          refine m_eqs (w := x674) (by rw [ex674, show x688.toInt.toNat = x672.toInt.toNat by omega]) ?_
          refine m_callV (n := 3) (ci := 11) (st := []) C (c_X12_bells l G τ675 (x668) (x671) (x674) i676 ) (by decide) (by decide) rfl rfl rfl q5_172 q5_169 q5_170 q5_171 q1_7 (by decide +kernel) rfl (by decide) ⟨by show (250 + 8 * y3.toInt.toNat) + 0 ≤ 600000; omega, by show (5300 + 24 * y3.toInt.toNat) + 0 ≤ 7302250; omega⟩ rfl (Nat.le_of_ble_eq_true rfl) dL_law_827 ?_
          rintro _ τ690 ⟨x693, rfl, i691, f692, b694⟩
          have r697 : Rel τ690 := r682.call f692 (by decide) (by decide)
          have r698 : RT τ690 := r683.call f692 (by decide) (by decide)
          show MW p l e _ s m _ below meth c _ 4 G (250 + 8 * y3.toInt.toNat) (5300 + 24 * y3.toInt.toNat) 830 [some (.ref b), some (.ref (G.1 0 0)), some (.ref (G.1 22 0)), some (.int y3)] [.int x693] τ690
          refine m_pop C dL_law_830 rfl ?_
          refine m_goto (tgt := 1028) C dL_law_831 (by decide) ?_
          obtain ⟨x699, ex699⟩ : ∃ y : Int32, y = y3 + 6 := ⟨_, rfl⟩
          have tx699 : x699.toInt = y3.toInt + 6 := by rw [ex699, ti_addv b8 kc_6 (by decide), kt_6]
          have b700 : IV x699 6 3072 := by rw [ex699]; exact iv_add b8 kc_6 (by decide)
          refine m_iinc (v := x699) (L1 := [some (.ref b), some (.ref (G.1 0 0)), some (.ref (G.1 22 0)), some (.int x699)]) C dL_law_1028 rfl (by rw [ex699]; rfl) (by decide) rfl rfl ?_
          refine m_goto (tgt := 18) C dL_law_1031 (by decide) ?_
          refine m_widen (c2 := 250 + 8 * x699.toInt.toNat) (s2 := 5300 + 24 * x699.toInt.toNat) (by omega) (by omega) ?_
          exact ih18 τ690 x699 i691 r697 r698 (iv_wk b700 (by decide)) (by have q := hm18; omega)
        by_cases s701 : x11.toInt = 22
        · refine m_tableIn (tgt := 834) (off := 801) C dL_law_33 (by omega) (by omega) (by rw [s701]; rfl) (by decide) ?_
          have b702 : IV x11 22 22 := ⟨by omega, by omega⟩
          refine m_aload_n C dL_law_834 rfl rfl ?_
          refine m_aload_n C dL_law_835 rfl rfl ?_
          refine m_iload_n C dL_law_836 rfl rfl ?_
          refine m_iconst (v := 1) C dL_law_837 (by decide) ?_
          refine m_iadd C dL_law_838 ?_
          refine m_topi (fun x703 ex703 => ?_)
          have tx703 : x703.toInt = y3.toInt + 1 := by rw [ex703, ti_addv b8 kc_1 (by decide), kt_1]
          have b704 : IV x703 1 3067 := by rw [ex703]; exact iv_add b8 kc_1 (by decide)
          refine m_sld C hX hbl hbA ⟨by omega, by omega⟩ dL_law_839 ?_
          refine m_topi (fun x705 ex705 => ?_)
          refine m_callV (n := 1) (ci := 10) (st := []) C (c_X11_image l G τ (x705) iτ ) (by decide) (by decide) rfl rfl rfl q4_0 q3_237 q3_238 q3_239 q1_1 (by decide +kernel) rfl (by decide) ⟨by show (250 + 8 * y3.toInt.toNat) + 0 ≤ 600000; omega, by show (5300 + 24 * y3.toInt.toNat) + 0 ≤ 7302250; omega⟩ rfl (Nat.le_of_ble_eq_true rfl) dL_law_840 ?_
          rintro _ τ706 ⟨x709, rfl, i707, f708, b710⟩
          have r713 : Rel τ706 := rτ.call f708 (by decide) (by decide)
          have r714 : RT τ706 := tτ.call f708 (by decide) (by decide)
          show MW p l e _ s m _ below meth c _ 4 G (250 + 8 * y3.toInt.toNat) (5300 + 24 * y3.toInt.toNat) 843 [some (.ref b), some (.ref (G.1 0 0)), some (.ref (G.1 22 0)), some (.int y3)] [.int x709] τ706
          refine m_pop C dL_law_843 rfl ?_
          refine m_aload_n C dL_law_844 rfl rfl ?_
          refine m_aload_n C dL_law_845 rfl rfl ?_
          refine m_iload_n C dL_law_846 rfl rfl ?_
          refine m_iconst (v := 1) C dL_law_847 (by decide) ?_
          refine m_iadd C dL_law_848 ?_
          refine m_topi (fun x715 ex715 => ?_)
          have tx715 : x715.toInt = y3.toInt + 1 := by rw [ex715, ti_addv b8 kc_1 (by decide), kt_1]
          have b716 : IV x715 1 3067 := by rw [ex715]; exact iv_add b8 kc_1 (by decide)
          refine m_sld C hX hbl hbA ⟨by omega, by omega⟩ dL_law_849 ?_
          refine m_eqs (w := x705) (by rw [ex705, show x715.toInt.toNat = x703.toInt.toNat by omega]) ?_
          refine m_callV (n := 1) (ci := 11) (st := []) C (c_X12_image l G τ706 (x705) i707 ) (by decide) (by decide) rfl rfl rfl q5_178 q5_175 q5_176 q5_177 q1_7 (by decide +kernel) rfl (by decide) ⟨by show (250 + 8 * y3.toInt.toNat) + 0 ≤ 600000; omega, by show (5300 + 24 * y3.toInt.toNat) + 0 ≤ 7302250; omega⟩ rfl (Nat.le_of_ble_eq_true rfl) dL_law_850 ?_
          rintro _ τ717 ⟨x720, rfl, i718, f719, b721⟩
          have r724 : Rel τ717 := r713.call f719 (by decide) (by decide)
          have r725 : RT τ717 := r714.call f719 (by decide) (by decide)
          show MW p l e _ s m _ below meth c _ 4 G (250 + 8 * y3.toInt.toNat) (5300 + 24 * y3.toInt.toNat) 853 [some (.ref b), some (.ref (G.1 0 0)), some (.ref (G.1 22 0)), some (.int y3)] [.int x720] τ717
          refine m_pop C dL_law_853 rfl ?_
          refine m_goto (tgt := 1028) C dL_law_854 (by decide) ?_
          obtain ⟨x726, ex726⟩ : ∃ y : Int32, y = y3 + 6 := ⟨_, rfl⟩
          have tx726 : x726.toInt = y3.toInt + 6 := by rw [ex726, ti_addv b8 kc_6 (by decide), kt_6]
          have b727 : IV x726 6 3072 := by rw [ex726]; exact iv_add b8 kc_6 (by decide)
          refine m_iinc (v := x726) (L1 := [some (.ref b), some (.ref (G.1 0 0)), some (.ref (G.1 22 0)), some (.int x726)]) C dL_law_1028 rfl (by rw [ex726]; rfl) (by decide) rfl rfl ?_
          refine m_goto (tgt := 18) C dL_law_1031 (by decide) ?_
          refine m_widen (c2 := 250 + 8 * x726.toInt.toNat) (s2 := 5300 + 24 * x726.toInt.toNat) (by omega) (by omega) ?_
          exact ih18 τ717 x726 i718 r724 r725 (iv_wk b727 (by decide)) (by have q := hm18; omega)
        by_cases s728 : x11.toInt = 23
        · refine m_tableIn (tgt := 857) (off := 824) C dL_law_33 (by omega) (by omega) (by rw [s728]; rfl) (by decide) ?_
          have b729 : IV x11 23 23 := ⟨by omega, by omega⟩
          refine m_aload_n C dL_law_857 rfl rfl ?_
          refine m_aload_n C dL_law_858 rfl rfl ?_
          refine m_iload_n C dL_law_859 rfl rfl ?_
          refine m_iconst (v := 1) C dL_law_860 (by decide) ?_
          refine m_iadd C dL_law_861 ?_
          refine m_topi (fun x730 ex730 => ?_)
          have tx730 : x730.toInt = y3.toInt + 1 := by rw [ex730, ti_addv b8 kc_1 (by decide), kt_1]
          have b731 : IV x730 1 3067 := by rw [ex730]; exact iv_add b8 kc_1 (by decide)
          refine m_sld C hX hbl hbA ⟨by omega, by omega⟩ dL_law_862 ?_
          refine m_topi (fun x732 ex732 => ?_)
          refine m_callV (n := 1) (ci := 10) (st := []) C (c_X11_restore l G τ (x732) iτ ) (by decide) (by decide) rfl rfl rfl q4_4 q4_1 q4_2 q4_3 q1_1 (by decide +kernel) rfl (by decide) ⟨by show (250 + 8 * y3.toInt.toNat) + 0 ≤ 600000; omega, by show (5300 + 24 * y3.toInt.toNat) + 0 ≤ 7302250; omega⟩ rfl (Nat.le_of_ble_eq_true rfl) dL_law_863 ?_
          rintro _ τ733 ⟨x736, rfl, i734, f735, b737⟩
          have r740 : Rel τ733 := rτ.call f735 (by decide) (by decide)
          have r741 : RT τ733 := tτ.call f735 (by decide) (by decide)
          show MW p l e _ s m _ below meth c _ 4 G (250 + 8 * y3.toInt.toNat) (5300 + 24 * y3.toInt.toNat) 866 [some (.ref b), some (.ref (G.1 0 0)), some (.ref (G.1 22 0)), some (.int y3)] [.int x736] τ733
          refine m_pop C dL_law_866 rfl ?_
          refine m_aload_n C dL_law_867 rfl rfl ?_
          refine m_aload_n C dL_law_868 rfl rfl ?_
          refine m_iload_n C dL_law_869 rfl rfl ?_
          refine m_iconst (v := 1) C dL_law_870 (by decide) ?_
          refine m_iadd C dL_law_871 ?_
          refine m_topi (fun x742 ex742 => ?_)
          have tx742 : x742.toInt = y3.toInt + 1 := by rw [ex742, ti_addv b8 kc_1 (by decide), kt_1]
          have b743 : IV x742 1 3067 := by rw [ex742]; exact iv_add b8 kc_1 (by decide)
          refine m_sld C hX hbl hbA ⟨by omega, by omega⟩ dL_law_872 ?_
          refine m_eqs (w := x732) (by rw [ex732, show x742.toInt.toNat = x730.toInt.toNat by omega]) ?_
          refine m_callV (n := 1) (ci := 11) (st := []) C (c_X12_restore l G τ733 (x732) i734 ) (by decide) (by decide) rfl rfl rfl q5_182 q5_179 q5_180 q5_181 q1_7 (by decide +kernel) rfl (by decide) ⟨by show (250 + 8 * y3.toInt.toNat) + 0 ≤ 600000; omega, by show (5300 + 24 * y3.toInt.toNat) + 0 ≤ 7302250; omega⟩ rfl (Nat.le_of_ble_eq_true rfl) dL_law_873 ?_
          rintro _ τ744 ⟨x747, rfl, i745, f746, b748⟩
          have r751 : Rel τ744 := r740.call f746 (by decide) (by decide)
          have r752 : RT τ744 := r741.call f746 (by decide) (by decide)
          show MW p l e _ s m _ below meth c _ 4 G (250 + 8 * y3.toInt.toNat) (5300 + 24 * y3.toInt.toNat) 876 [some (.ref b), some (.ref (G.1 0 0)), some (.ref (G.1 22 0)), some (.int y3)] [.int x747] τ744
          refine m_pop C dL_law_876 rfl ?_
          refine m_goto (tgt := 1028) C dL_law_877 (by decide) ?_
          obtain ⟨x753, ex753⟩ : ∃ y : Int32, y = y3 + 6 := ⟨_, rfl⟩
          have tx753 : x753.toInt = y3.toInt + 6 := by rw [ex753, ti_addv b8 kc_6 (by decide), kt_6]
          have b754 : IV x753 6 3072 := by rw [ex753]; exact iv_add b8 kc_6 (by decide)
          refine m_iinc (v := x753) (L1 := [some (.ref b), some (.ref (G.1 0 0)), some (.ref (G.1 22 0)), some (.int x753)]) C dL_law_1028 rfl (by rw [ex753]; rfl) (by decide) rfl rfl ?_
          refine m_goto (tgt := 18) C dL_law_1031 (by decide) ?_
          refine m_widen (c2 := 250 + 8 * x753.toInt.toNat) (s2 := 5300 + 24 * x753.toInt.toNat) (by omega) (by omega) ?_
          exact ih18 τ744 x753 i745 r751 r752 (iv_wk b754 (by decide)) (by have q := hm18; omega)
        by_cases s755 : x11.toInt = 24
        · refine m_tableIn (tgt := 880) (off := 847) C dL_law_33 (by omega) (by omega) (by rw [s755]; rfl) (by decide) ?_
          have b756 : IV x11 24 24 := ⟨by omega, by omega⟩
          refine m_aload_n C dL_law_880 rfl rfl ?_
          refine m_aload_n C dL_law_881 rfl rfl ?_
          refine m_iload_n C dL_law_882 rfl rfl ?_
          refine m_iconst (v := 1) C dL_law_883 (by decide) ?_
          refine m_iadd C dL_law_884 ?_
          refine m_topi (fun x757 ex757 => ?_)
          have tx757 : x757.toInt = y3.toInt + 1 := by rw [ex757, ti_addv b8 kc_1 (by decide), kt_1]
          have b758 : IV x757 1 3067 := by rw [ex757]; exact iv_add b8 kc_1 (by decide)
          refine m_sld C hX hbl hbA ⟨by omega, by omega⟩ dL_law_885 ?_
          refine m_topi (fun x759 ex759 => ?_)
          refine m_callV (n := 1) (ci := 10) (st := []) C (c_X11_kind l G τ (x759) iτ ) (by decide) (by decide) rfl rfl rfl q4_8 q4_5 q4_6 q4_7 q1_1 (by decide +kernel) rfl (by decide) ⟨by show (250 + 8 * y3.toInt.toNat) + 0 ≤ 600000; omega, by show (5300 + 24 * y3.toInt.toNat) + 0 ≤ 7302250; omega⟩ rfl (Nat.le_of_ble_eq_true rfl) dL_law_886 ?_
          rintro _ τ760 ⟨x763, rfl, i761, f762, b764⟩
          have r767 : Rel τ760 := rτ.call f762 (by decide) (by decide)
          have r768 : RT τ760 := tτ.call f762 (by decide) (by decide)
          show MW p l e _ s m _ below meth c _ 4 G (250 + 8 * y3.toInt.toNat) (5300 + 24 * y3.toInt.toNat) 889 [some (.ref b), some (.ref (G.1 0 0)), some (.ref (G.1 22 0)), some (.int y3)] [.int x763] τ760
          refine m_pop C dL_law_889 rfl ?_
          refine m_aload_n C dL_law_890 rfl rfl ?_
          refine m_aload_n C dL_law_891 rfl rfl ?_
          refine m_iload_n C dL_law_892 rfl rfl ?_
          refine m_iconst (v := 1) C dL_law_893 (by decide) ?_
          refine m_iadd C dL_law_894 ?_
          refine m_topi (fun x769 ex769 => ?_)
          have tx769 : x769.toInt = y3.toInt + 1 := by rw [ex769, ti_addv b8 kc_1 (by decide), kt_1]
          have b770 : IV x769 1 3067 := by rw [ex769]; exact iv_add b8 kc_1 (by decide)
          refine m_sld C hX hbl hbA ⟨by omega, by omega⟩ dL_law_895 ?_
          refine m_eqs (w := x759) (by rw [ex759, show x769.toInt.toNat = x757.toInt.toNat by omega]) ?_
          refine m_callV (n := 1) (ci := 11) (st := []) C (c_X12_kind l G τ760 (x759) i761 ) (by decide) (by decide) rfl rfl rfl q5_186 q5_183 q5_184 q5_185 q1_7 (by decide +kernel) rfl (by decide) ⟨by show (250 + 8 * y3.toInt.toNat) + 0 ≤ 600000; omega, by show (5300 + 24 * y3.toInt.toNat) + 0 ≤ 7302250; omega⟩ rfl (Nat.le_of_ble_eq_true rfl) dL_law_896 ?_
          rintro _ τ771 ⟨x774, rfl, i772, f773, b775⟩
          have r778 : Rel τ771 := r767.call f773 (by decide) (by decide)
          have r779 : RT τ771 := r768.call f773 (by decide) (by decide)
          show MW p l e _ s m _ below meth c _ 4 G (250 + 8 * y3.toInt.toNat) (5300 + 24 * y3.toInt.toNat) 899 [some (.ref b), some (.ref (G.1 0 0)), some (.ref (G.1 22 0)), some (.int y3)] [.int x774] τ771
          refine m_pop C dL_law_899 rfl ?_
          refine m_goto (tgt := 1028) C dL_law_900 (by decide) ?_
          obtain ⟨x780, ex780⟩ : ∃ y : Int32, y = y3 + 6 := ⟨_, rfl⟩
          have tx780 : x780.toInt = y3.toInt + 6 := by rw [ex780, ti_addv b8 kc_6 (by decide), kt_6]
          have b781 : IV x780 6 3072 := by rw [ex780]; exact iv_add b8 kc_6 (by decide)
          refine m_iinc (v := x780) (L1 := [some (.ref b), some (.ref (G.1 0 0)), some (.ref (G.1 22 0)), some (.int x780)]) C dL_law_1028 rfl (by rw [ex780]; rfl) (by decide) rfl rfl ?_
          refine m_goto (tgt := 18) C dL_law_1031 (by decide) ?_
          refine m_widen (c2 := 250 + 8 * x780.toInt.toNat) (s2 := 5300 + 24 * x780.toInt.toNat) (by omega) (by omega) ?_
          exact ih18 τ771 x780 i772 r778 r779 (iv_wk b781 (by decide)) (by have q := hm18; omega)
        by_cases s782 : x11.toInt = 25
        · refine m_tableIn (tgt := 903) (off := 870) C dL_law_33 (by omega) (by omega) (by rw [s782]; rfl) (by decide) ?_
          have b783 : IV x11 25 25 := ⟨by omega, by omega⟩
          refine m_aload_n C dL_law_903 rfl rfl ?_
          refine m_aload_n C dL_law_904 rfl rfl ?_
          refine m_iload_n C dL_law_905 rfl rfl ?_
          refine m_iconst (v := 1) C dL_law_906 (by decide) ?_
          refine m_iadd C dL_law_907 ?_
          refine m_topi (fun x784 ex784 => ?_)
          have tx784 : x784.toInt = y3.toInt + 1 := by rw [ex784, ti_addv b8 kc_1 (by decide), kt_1]
          have b785 : IV x784 1 3067 := by rw [ex784]; exact iv_add b8 kc_1 (by decide)
          refine m_sld C hX hbl hbA ⟨by omega, by omega⟩ dL_law_908 ?_
          refine m_topi (fun x786 ex786 => ?_)
          refine m_aload_n C dL_law_909 rfl rfl ?_
          refine m_iload_n C dL_law_910 rfl rfl ?_
          refine m_iconst (v := 2) C dL_law_911 (by decide) ?_
          refine m_iadd C dL_law_912 ?_
          refine m_topi (fun x787 ex787 => ?_)
          have tx787 : x787.toInt = y3.toInt + 2 := by rw [ex787, ti_addv b8 kc_2 (by decide), kt_2]
          have b788 : IV x787 2 3068 := by rw [ex787]; exact iv_add b8 kc_2 (by decide)
          refine m_sld C hX hbl hbA ⟨by omega, by omega⟩ dL_law_913 ?_
          refine m_topi (fun x789 ex789 => ?_)
          refine m_callV (n := 2) (ci := 10) (st := []) C (c_X11_as l G τ (x786) (x789) iτ ) (by decide) (by decide) rfl rfl rfl q4_30 q4_27 q4_28 q4_29 q1_1 (by decide +kernel) rfl (by decide) ⟨by show (250 + 8 * y3.toInt.toNat) + 0 ≤ 600000; omega, by show (5300 + 24 * y3.toInt.toNat) + 0 ≤ 7302250; omega⟩ rfl (Nat.le_of_ble_eq_true rfl) dL_law_914 ?_
          rintro _ τ790 ⟨x793, rfl, i791, f792, b794⟩
          have r797 : Rel τ790 := rτ.call f792 (by decide) (by decide)
          have r798 : RT τ790 := tτ.call f792 (by decide) (by decide)
          show MW p l e _ s m _ below meth c _ 4 G (250 + 8 * y3.toInt.toNat) (5300 + 24 * y3.toInt.toNat) 917 [some (.ref b), some (.ref (G.1 0 0)), some (.ref (G.1 22 0)), some (.int y3)] [.int x793] τ790
          refine m_pop C dL_law_917 rfl ?_
          refine m_aload_n C dL_law_918 rfl rfl ?_
          refine m_aload_n C dL_law_919 rfl rfl ?_
          refine m_iload_n C dL_law_920 rfl rfl ?_
          refine m_iconst (v := 1) C dL_law_921 (by decide) ?_
          refine m_iadd C dL_law_922 ?_
          refine m_topi (fun x799 ex799 => ?_)
          have tx799 : x799.toInt = y3.toInt + 1 := by rw [ex799, ti_addv b8 kc_1 (by decide), kt_1]
          have b800 : IV x799 1 3067 := by rw [ex799]; exact iv_add b8 kc_1 (by decide)
          refine m_sld C hX hbl hbA ⟨by omega, by omega⟩ dL_law_923 ?_
          refine m_eqs (w := x786) (by rw [ex786, show x799.toInt.toNat = x784.toInt.toNat by omega]) ?_
          refine m_aload_n C dL_law_924 rfl rfl ?_
          refine m_iload_n C dL_law_925 rfl rfl ?_
          refine m_iconst (v := 2) C dL_law_926 (by decide) ?_
          refine m_iadd C dL_law_927 ?_
          refine m_topi (fun x801 ex801 => ?_)
          have tx801 : x801.toInt = y3.toInt + 2 := by rw [ex801, ti_addv b8 kc_2 (by decide), kt_2]
          have b802 : IV x801 2 3068 := by rw [ex801]; exact iv_add b8 kc_2 (by decide)
          refine m_sld C hX hbl hbA ⟨by omega, by omega⟩ dL_law_928 ?_
          refine m_eqs (w := x789) (by rw [ex789, show x801.toInt.toNat = x787.toInt.toNat by omega]) ?_
          refine m_callV (n := 2) (ci := 11) (st := []) C (c_X12_as l G τ790 (x786) (x789) i791 ) (by decide) (by decide) rfl rfl rfl q5_190 q5_187 q5_188 q5_189 q1_7 (by decide +kernel) rfl (by decide) ⟨by show (250 + 8 * y3.toInt.toNat) + 0 ≤ 600000; omega, by show (5300 + 24 * y3.toInt.toNat) + 0 ≤ 7302250; omega⟩ rfl (Nat.le_of_ble_eq_true rfl) dL_law_929 ?_
          rintro _ τ803 ⟨x806, rfl, i804, f805, b807⟩
          have r810 : Rel τ803 := r797.call f805 (by decide) (by decide)
          have r811 : RT τ803 := r798.call f805 (by decide) (by decide)
          show MW p l e _ s m _ below meth c _ 4 G (250 + 8 * y3.toInt.toNat) (5300 + 24 * y3.toInt.toNat) 932 [some (.ref b), some (.ref (G.1 0 0)), some (.ref (G.1 22 0)), some (.int y3)] [.int x806] τ803
          refine m_pop C dL_law_932 rfl ?_
          refine m_goto (tgt := 1028) C dL_law_933 (by decide) ?_
          obtain ⟨x812, ex812⟩ : ∃ y : Int32, y = y3 + 6 := ⟨_, rfl⟩
          have tx812 : x812.toInt = y3.toInt + 6 := by rw [ex812, ti_addv b8 kc_6 (by decide), kt_6]
          have b813 : IV x812 6 3072 := by rw [ex812]; exact iv_add b8 kc_6 (by decide)
          refine m_iinc (v := x812) (L1 := [some (.ref b), some (.ref (G.1 0 0)), some (.ref (G.1 22 0)), some (.int x812)]) C dL_law_1028 rfl (by rw [ex812]; rfl) (by decide) rfl rfl ?_
          refine m_goto (tgt := 18) C dL_law_1031 (by decide) ?_
          refine m_widen (c2 := 250 + 8 * x812.toInt.toNat) (s2 := 5300 + 24 * x812.toInt.toNat) (by omega) (by omega) ?_
          exact ih18 τ803 x812 i804 r810 r811 (iv_wk b813 (by decide)) (by have q := hm18; omega)
        by_cases s814 : x11.toInt = 26
        · refine m_tableIn (tgt := 936) (off := 903) C dL_law_33 (by omega) (by omega) (by rw [s814]; rfl) (by decide) ?_
          have b815 : IV x11 26 26 := ⟨by omega, by omega⟩
          refine m_aload_n C dL_law_936 rfl rfl ?_
          refine m_aload_n C dL_law_937 rfl rfl ?_
          refine m_iload_n C dL_law_938 rfl rfl ?_
          refine m_iconst (v := 1) C dL_law_939 (by decide) ?_
          refine m_iadd C dL_law_940 ?_
          refine m_topi (fun x816 ex816 => ?_)
          have tx816 : x816.toInt = y3.toInt + 1 := by rw [ex816, ti_addv b8 kc_1 (by decide), kt_1]
          have b817 : IV x816 1 3067 := by rw [ex816]; exact iv_add b8 kc_1 (by decide)
          refine m_sld C hX hbl hbA ⟨by omega, by omega⟩ dL_law_941 ?_
          refine m_topi (fun x818 ex818 => ?_)
          refine m_aload_n C dL_law_942 rfl rfl ?_
          refine m_iload_n C dL_law_943 rfl rfl ?_
          refine m_iconst (v := 2) C dL_law_944 (by decide) ?_
          refine m_iadd C dL_law_945 ?_
          refine m_topi (fun x819 ex819 => ?_)
          have tx819 : x819.toInt = y3.toInt + 2 := by rw [ex819, ti_addv b8 kc_2 (by decide), kt_2]
          have b820 : IV x819 2 3068 := by rw [ex819]; exact iv_add b8 kc_2 (by decide)
          refine m_sld C hX hbl hbA ⟨by omega, by omega⟩ dL_law_946 ?_
          refine m_topi (fun x821 ex821 => ?_)
          refine m_callV (n := 2) (ci := 10) (st := []) C (c_X11_ask l G τ (x818) (x821) iτ ) (by decide) (by decide) rfl rfl rfl q4_42 q4_39 q4_40 q4_41 q1_1 (by decide +kernel) rfl (by decide) ⟨by show (250 + 8 * y3.toInt.toNat) + 0 ≤ 600000; omega, by show (5300 + 24 * y3.toInt.toNat) + 0 ≤ 7302250; omega⟩ rfl (Nat.le_of_ble_eq_true rfl) dL_law_947 ?_
          rintro _ τ822 ⟨x825, rfl, i823, f824, b826⟩
          have r829 : Rel τ822 := rτ.call f824 (by decide) (by decide)
          have r830 : RT τ822 := tτ.call f824 (by decide) (by decide)
          show MW p l e _ s m _ below meth c _ 4 G (250 + 8 * y3.toInt.toNat) (5300 + 24 * y3.toInt.toNat) 950 [some (.ref b), some (.ref (G.1 0 0)), some (.ref (G.1 22 0)), some (.int y3)] [.int x825] τ822
          refine m_pop C dL_law_950 rfl ?_
          refine m_aload_n C dL_law_951 rfl rfl ?_
          refine m_aload_n C dL_law_952 rfl rfl ?_
          refine m_iload_n C dL_law_953 rfl rfl ?_
          refine m_iconst (v := 1) C dL_law_954 (by decide) ?_
          refine m_iadd C dL_law_955 ?_
          refine m_topi (fun x831 ex831 => ?_)
          have tx831 : x831.toInt = y3.toInt + 1 := by rw [ex831, ti_addv b8 kc_1 (by decide), kt_1]
          have b832 : IV x831 1 3067 := by rw [ex831]; exact iv_add b8 kc_1 (by decide)
          refine m_sld C hX hbl hbA ⟨by omega, by omega⟩ dL_law_956 ?_
          refine m_eqs (w := x818) (by rw [ex818, show x831.toInt.toNat = x816.toInt.toNat by omega]) ?_
          refine m_aload_n C dL_law_957 rfl rfl ?_
          refine m_iload_n C dL_law_958 rfl rfl ?_
          refine m_iconst (v := 2) C dL_law_959 (by decide) ?_
          refine m_iadd C dL_law_960 ?_
          refine m_topi (fun x833 ex833 => ?_)
          have tx833 : x833.toInt = y3.toInt + 2 := by rw [ex833, ti_addv b8 kc_2 (by decide), kt_2]
          have b834 : IV x833 2 3068 := by rw [ex833]; exact iv_add b8 kc_2 (by decide)
          refine m_sld C hX hbl hbA ⟨by omega, by omega⟩ dL_law_961 ?_
          refine m_eqs (w := x821) (by rw [ex821, show x833.toInt.toNat = x819.toInt.toNat by omega]) ?_
          refine m_callV (n := 2) (ci := 11) (st := []) C (c_X12_ask l G τ822 (x818) (x821) i823 ) (by decide) (by decide) rfl rfl rfl q5_197 q5_194 q5_195 q5_196 q1_7 (by decide +kernel) rfl (by decide) ⟨by show (250 + 8 * y3.toInt.toNat) + 0 ≤ 600000; omega, by show (5300 + 24 * y3.toInt.toNat) + 0 ≤ 7302250; omega⟩ rfl (Nat.le_of_ble_eq_true rfl) dL_law_962 ?_
          rintro _ τ835 ⟨x838, rfl, i836, f837, b839⟩
          have r842 : Rel τ835 := r829.call f837 (by decide) (by decide)
          have r843 : RT τ835 := r830.call f837 (by decide) (by decide)
          show MW p l e _ s m _ below meth c _ 4 G (250 + 8 * y3.toInt.toNat) (5300 + 24 * y3.toInt.toNat) 965 [some (.ref b), some (.ref (G.1 0 0)), some (.ref (G.1 22 0)), some (.int y3)] [.int x838] τ835
          refine m_pop C dL_law_965 rfl ?_
          refine m_goto (tgt := 1028) C dL_law_966 (by decide) ?_
          obtain ⟨x844, ex844⟩ : ∃ y : Int32, y = y3 + 6 := ⟨_, rfl⟩
          have tx844 : x844.toInt = y3.toInt + 6 := by rw [ex844, ti_addv b8 kc_6 (by decide), kt_6]
          have b845 : IV x844 6 3072 := by rw [ex844]; exact iv_add b8 kc_6 (by decide)
          refine m_iinc (v := x844) (L1 := [some (.ref b), some (.ref (G.1 0 0)), some (.ref (G.1 22 0)), some (.int x844)]) C dL_law_1028 rfl (by rw [ex844]; rfl) (by decide) rfl rfl ?_
          refine m_goto (tgt := 18) C dL_law_1031 (by decide) ?_
          refine m_widen (c2 := 250 + 8 * x844.toInt.toNat) (s2 := 5300 + 24 * x844.toInt.toNat) (by omega) (by omega) ?_
          exact ih18 τ835 x844 i836 r842 r843 (iv_wk b845 (by decide)) (by have q := hm18; omega)
        by_cases s846 : x11.toInt = 27
        · refine m_tableIn (tgt := 969) (off := 936) C dL_law_33 (by omega) (by omega) (by rw [s846]; rfl) (by decide) ?_
          have b847 : IV x11 27 27 := ⟨by omega, by omega⟩
          refine m_aload_n C dL_law_969 rfl rfl ?_
          refine m_aload_n C dL_law_970 rfl rfl ?_
          refine m_iload_n C dL_law_971 rfl rfl ?_
          refine m_iconst (v := 1) C dL_law_972 (by decide) ?_
          refine m_iadd C dL_law_973 ?_
          refine m_topi (fun x848 ex848 => ?_)
          have tx848 : x848.toInt = y3.toInt + 1 := by rw [ex848, ti_addv b8 kc_1 (by decide), kt_1]
          have b849 : IV x848 1 3067 := by rw [ex848]; exact iv_add b8 kc_1 (by decide)
          refine m_sld C hX hbl hbA ⟨by omega, by omega⟩ dL_law_974 ?_
          refine m_topi (fun x850 ex850 => ?_)
          refine m_callV (n := 1) (ci := 10) (st := []) C (c_X11_trace l G τ (x850) iτ ) (by decide) (by decide) rfl rfl rfl q4_97 q4_94 q4_95 q4_96 q1_1 (by decide +kernel) rfl (by decide) ⟨by show (250 + 8 * y3.toInt.toNat) + 0 ≤ 600000; omega, by show (5300 + 24 * y3.toInt.toNat) + 0 ≤ 7302250; omega⟩ rfl (Nat.le_of_ble_eq_true rfl) dL_law_975 ?_
          rintro _ τ851 ⟨x854, rfl, i852, f853, b855⟩
          have r858 : Rel τ851 := rτ.call f853 (by decide) (by decide)
          have r859 : RT τ851 := tτ.call f853 (by decide) (by decide)
          show MW p l e _ s m _ below meth c _ 4 G (250 + 8 * y3.toInt.toNat) (5300 + 24 * y3.toInt.toNat) 978 [some (.ref b), some (.ref (G.1 0 0)), some (.ref (G.1 22 0)), some (.int y3)] [.int x854] τ851
          refine m_pop C dL_law_978 rfl ?_
          refine m_aload_n C dL_law_979 rfl rfl ?_
          refine m_aload_n C dL_law_980 rfl rfl ?_
          refine m_iload_n C dL_law_981 rfl rfl ?_
          refine m_iconst (v := 1) C dL_law_982 (by decide) ?_
          refine m_iadd C dL_law_983 ?_
          refine m_topi (fun x860 ex860 => ?_)
          have tx860 : x860.toInt = y3.toInt + 1 := by rw [ex860, ti_addv b8 kc_1 (by decide), kt_1]
          have b861 : IV x860 1 3067 := by rw [ex860]; exact iv_add b8 kc_1 (by decide)
          refine m_sld C hX hbl hbA ⟨by omega, by omega⟩ dL_law_984 ?_
          refine m_eqs (w := x850) (by rw [ex850, show x860.toInt.toNat = x848.toInt.toNat by omega]) ?_
          refine m_callV (n := 1) (ci := 11) (st := []) C (c_X12_trace l G τ851 (x850) i852 ) (by decide) (by decide) rfl rfl rfl q5_213 q5_210 q5_211 q5_212 q1_7 (by decide +kernel) rfl (by decide) ⟨by show (250 + 8 * y3.toInt.toNat) + 0 ≤ 600000; omega, by show (5300 + 24 * y3.toInt.toNat) + 0 ≤ 7302250; omega⟩ rfl (Nat.le_of_ble_eq_true rfl) dL_law_985 ?_
          rintro _ τ862 ⟨x865, rfl, i863, f864, b866⟩
          have r869 : Rel τ862 := r858.call f864 (by decide) (by decide)
          have r870 : RT τ862 := r859.call f864 (by decide) (by decide)
          show MW p l e _ s m _ below meth c _ 4 G (250 + 8 * y3.toInt.toNat) (5300 + 24 * y3.toInt.toNat) 988 [some (.ref b), some (.ref (G.1 0 0)), some (.ref (G.1 22 0)), some (.int y3)] [.int x865] τ862
          refine m_pop C dL_law_988 rfl ?_
          refine m_goto (tgt := 1028) C dL_law_989 (by decide) ?_
          obtain ⟨x871, ex871⟩ : ∃ y : Int32, y = y3 + 6 := ⟨_, rfl⟩
          have tx871 : x871.toInt = y3.toInt + 6 := by rw [ex871, ti_addv b8 kc_6 (by decide), kt_6]
          have b872 : IV x871 6 3072 := by rw [ex871]; exact iv_add b8 kc_6 (by decide)
          refine m_iinc (v := x871) (L1 := [some (.ref b), some (.ref (G.1 0 0)), some (.ref (G.1 22 0)), some (.int x871)]) C dL_law_1028 rfl (by rw [ex871]; rfl) (by decide) rfl rfl ?_
          refine m_goto (tgt := 18) C dL_law_1031 (by decide) ?_
          refine m_widen (c2 := 250 + 8 * x871.toInt.toNat) (s2 := 5300 + 24 * x871.toInt.toNat) (by omega) (by omega) ?_
          exact ih18 τ862 x871 i863 r869 r870 (iv_wk b872 (by decide)) (by have q := hm18; omega)
        by_cases s873 : x11.toInt = 28
        · refine m_tableIn (tgt := 992) (off := 959) C dL_law_33 (by omega) (by omega) (by rw [s873]; rfl) (by decide) ?_
          have b874 : IV x11 28 28 := ⟨by omega, by omega⟩
          refine m_aload_n C dL_law_992 rfl rfl ?_
          refine m_aload_n C dL_law_993 rfl rfl ?_
          refine m_iload_n C dL_law_994 rfl rfl ?_
          refine m_iconst (v := 1) C dL_law_995 (by decide) ?_
          refine m_iadd C dL_law_996 ?_
          refine m_topi (fun x875 ex875 => ?_)
          have tx875 : x875.toInt = y3.toInt + 1 := by rw [ex875, ti_addv b8 kc_1 (by decide), kt_1]
          have b876 : IV x875 1 3067 := by rw [ex875]; exact iv_add b8 kc_1 (by decide)
          refine m_sld C hX hbl hbA ⟨by omega, by omega⟩ dL_law_997 ?_
          refine m_topi (fun x877 ex877 => ?_)
          refine m_callV (n := 1) (ci := 10) (st := []) C (c_X11_count l G τ (x877) iτ ) (by decide) (by decide) rfl rfl rfl q4_101 q4_98 q4_99 q4_100 q1_1 (by decide +kernel) rfl (by decide) ⟨by show (250 + 8 * y3.toInt.toNat) + 0 ≤ 600000; omega, by show (5300 + 24 * y3.toInt.toNat) + 0 ≤ 7302250; omega⟩ rfl (Nat.le_of_ble_eq_true rfl) dL_law_998 ?_
          rintro _ τ878 ⟨x881, rfl, i879, f880, b882⟩
          have r885 : Rel τ878 := rτ.call f880 (by decide) (by decide)
          have r886 : RT τ878 := tτ.call f880 (by decide) (by decide)
          show MW p l e _ s m _ below meth c _ 4 G (250 + 8 * y3.toInt.toNat) (5300 + 24 * y3.toInt.toNat) 1001 [some (.ref b), some (.ref (G.1 0 0)), some (.ref (G.1 22 0)), some (.int y3)] [.int x881] τ878
          refine m_pop C dL_law_1001 rfl ?_
          refine m_aload_n C dL_law_1002 rfl rfl ?_
          refine m_aload_n C dL_law_1003 rfl rfl ?_
          refine m_iload_n C dL_law_1004 rfl rfl ?_
          refine m_iconst (v := 1) C dL_law_1005 (by decide) ?_
          refine m_iadd C dL_law_1006 ?_
          refine m_topi (fun x887 ex887 => ?_)
          have tx887 : x887.toInt = y3.toInt + 1 := by rw [ex887, ti_addv b8 kc_1 (by decide), kt_1]
          have b888 : IV x887 1 3067 := by rw [ex887]; exact iv_add b8 kc_1 (by decide)
          refine m_sld C hX hbl hbA ⟨by omega, by omega⟩ dL_law_1007 ?_
          refine m_eqs (w := x877) (by rw [ex877, show x887.toInt.toNat = x875.toInt.toNat by omega]) ?_
          refine m_callV (n := 1) (ci := 11) (st := []) C (c_X12_count l G τ878 (x877) i879 ) (by decide) (by decide) rfl rfl rfl q5_217 q5_214 q5_215 q5_216 q1_7 (by decide +kernel) rfl (by decide) ⟨by show (250 + 8 * y3.toInt.toNat) + 0 ≤ 600000; omega, by show (5300 + 24 * y3.toInt.toNat) + 0 ≤ 7302250; omega⟩ rfl (Nat.le_of_ble_eq_true rfl) dL_law_1008 ?_
          rintro _ τ889 ⟨x892, rfl, i890, f891, b893⟩
          have r896 : Rel τ889 := r885.call f891 (by decide) (by decide)
          have r897 : RT τ889 := r886.call f891 (by decide) (by decide)
          show MW p l e _ s m _ below meth c _ 4 G (250 + 8 * y3.toInt.toNat) (5300 + 24 * y3.toInt.toNat) 1011 [some (.ref b), some (.ref (G.1 0 0)), some (.ref (G.1 22 0)), some (.int y3)] [.int x892] τ889
          refine m_pop C dL_law_1011 rfl ?_
          refine m_goto (tgt := 1028) C dL_law_1012 (by decide) ?_
          obtain ⟨x898, ex898⟩ : ∃ y : Int32, y = y3 + 6 := ⟨_, rfl⟩
          have tx898 : x898.toInt = y3.toInt + 6 := by rw [ex898, ti_addv b8 kc_6 (by decide), kt_6]
          have b899 : IV x898 6 3072 := by rw [ex898]; exact iv_add b8 kc_6 (by decide)
          refine m_iinc (v := x898) (L1 := [some (.ref b), some (.ref (G.1 0 0)), some (.ref (G.1 22 0)), some (.int x898)]) C dL_law_1028 rfl (by rw [ex898]; rfl) (by decide) rfl rfl ?_
          refine m_goto (tgt := 18) C dL_law_1031 (by decide) ?_
          refine m_widen (c2 := 250 + 8 * x898.toInt.toNat) (s2 := 5300 + 24 * x898.toInt.toNat) (by omega) (by omega) ?_
          exact ih18 τ889 x898 i890 r896 r897 (iv_wk b899 (by decide)) (by have q := hm18; omega)
        by_cases s900 : x11.toInt = 29
        · refine m_tableIn (tgt := 1015) (off := 982) C dL_law_33 (by omega) (by omega) (by rw [s900]; rfl) (by decide) ?_
          have b901 : IV x11 29 29 := ⟨by omega, by omega⟩
          refine m_aload_n C dL_law_1015 rfl rfl ?_
          refine m_callV (n := 0) (ci := 10) (st := []) C (c_X11_status l G τ  iτ ) (by decide) (by decide) rfl rfl rfl q4_109 q4_106 q4_107 q4_108 q1_1 (by decide +kernel) rfl (by decide) ⟨by show (250 + 8 * y3.toInt.toNat) + 0 ≤ 600000; omega, by show (5300 + 24 * y3.toInt.toNat) + 0 ≤ 7302250; omega⟩ rfl (Nat.le_of_ble_eq_true rfl) dL_law_1016 ?_
          rintro _ τ902 ⟨x905, rfl, i903, f904, b906⟩
          have r909 : Rel τ902 := rτ.call f904 (by decide) (by decide)
          have r910 : RT τ902 := tτ.call f904 (by decide) (by decide)
          show MW p l e _ s m _ below meth c _ 4 G (250 + 8 * y3.toInt.toNat) (5300 + 24 * y3.toInt.toNat) 1019 [some (.ref b), some (.ref (G.1 0 0)), some (.ref (G.1 22 0)), some (.int y3)] [.int x905] τ902
          refine m_pop C dL_law_1019 rfl ?_
          refine m_aload_n C dL_law_1020 rfl rfl ?_
          refine m_callV (n := 0) (ci := 11) (st := []) C (c_X12_status l G τ902  i903 ) (by decide) (by decide) rfl rfl rfl q5_221 q5_218 q5_219 q5_220 q1_7 (by decide +kernel) rfl (by decide) ⟨by show (250 + 8 * y3.toInt.toNat) + 0 ≤ 600000; omega, by show (5300 + 24 * y3.toInt.toNat) + 0 ≤ 7302250; omega⟩ rfl (Nat.le_of_ble_eq_true rfl) dL_law_1021 ?_
          rintro _ τ911 ⟨x914, rfl, i912, f913, b915⟩
          have r918 : Rel τ911 := r909.call f913 (by decide) (by decide)
          have r919 : RT τ911 := r910.call f913 (by decide) (by decide)
          show MW p l e _ s m _ below meth c _ 4 G (250 + 8 * y3.toInt.toNat) (5300 + 24 * y3.toInt.toNat) 1024 [some (.ref b), some (.ref (G.1 0 0)), some (.ref (G.1 22 0)), some (.int y3)] [.int x914] τ911
          refine m_pop C dL_law_1024 rfl ?_
          refine m_goto (tgt := 1028) C dL_law_1025 (by decide) ?_
          obtain ⟨x920, ex920⟩ : ∃ y : Int32, y = y3 + 6 := ⟨_, rfl⟩
          have tx920 : x920.toInt = y3.toInt + 6 := by rw [ex920, ti_addv b8 kc_6 (by decide), kt_6]
          have b921 : IV x920 6 3072 := by rw [ex920]; exact iv_add b8 kc_6 (by decide)
          refine m_iinc (v := x920) (L1 := [some (.ref b), some (.ref (G.1 0 0)), some (.ref (G.1 22 0)), some (.int x920)]) C dL_law_1028 rfl (by rw [ex920]; rfl) (by decide) rfl rfl ?_
          refine m_goto (tgt := 18) C dL_law_1031 (by decide) ?_
          refine m_widen (c2 := 250 + 8 * x920.toInt.toNat) (s2 := 5300 + 24 * x920.toInt.toNat) (by omega) (by omega) ?_
          exact ih18 τ911 x920 i912 r918 r919 (iv_wk b921 (by decide)) (by have q := hm18; omega)
        exact absurd s13 (by omega)
end LAW
