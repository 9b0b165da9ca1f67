def Hid (P : Prop) : Prop := P
theorem Hid.mk {P : Prop} (h : P) : Hid P := h
theorem RT.faultB {σ τ : Sg} {r1 r2 : Int32} (h : RT σ) (f1 : Fr MS_X11_faultT AS_X11_faultT σ τ) (hC : r1.toInt = (gV σ 12 0 2).toInt) (hM : r2.toInt = (gV τ 22 0 7).toInt) : r1.toInt = r2.toInt := by
  rw [hC, hM, f1.1 22 0 7 (by decide) (by decide)]
  exact h.2
section LAW
set_option maxHeartbeats 8000000 in
set_option maxRecDepth 100000 in
theorem law_loop {p : Program} {e : Env} {s : State} {m : MethodId} {below : List Frame} {meth : Method} {c : Code} (l : Launch) {b L : Nat} {xs : Nat → Int32} (hL : L ≤ 3072) (C0 : lw_At p s m meth c b L xs) (G : Gt) (hG0 : G.2.2.2.1 = s.heap.size) : ∀ (n : Nat) (τ : Sg) (y3 : Int32), Inv τ → Rel τ → RT τ → IV y3 0 3078 → (3078 - y3.toInt).toNat < n → MW p l e room_1 s m #[Value.ref b] below meth c (lw_Z below #[Value.ref b] s) 4 G (250 + 8 * y3.toInt.toNat) (5300 + 24 * y3.toInt.toNat) 18 [some (.ref b), some (.ref (G.1 0 0)), some (.ref (G.1 22 0)), some (.int y3)] [] τ := by
  obtain ⟨hx, hb, hr, hml, hown, hts, hX, hbl, hlk, hgv⟩ := C0
  have C : Cx p s m #[Value.ref b] c cL_law 4 "LeanTowerLaw" := ⟨hx, hb, hml, hown, fun w hw => hts w (List.mem_filter.mp hw).1⟩
  have hbA : ¬ aG G b := fun q => by have q2 : G.2.2.2.1 ≤ b := q; omega
  have hL31 : L < 2 ^ 31 := by omega
  have k0 : (0 : Int32).toInt = 0 := by decide
  have k1 : (1 : Int32).toInt = 1 := by decide
  intro n
  induction n with
  | zero => intro τ y3 iτ rτ tτ b_y3 hm; exact absurd hm (Nat.not_lt_zero _)
  | succ n ih18 =>
      intro τ y3 iτ rτ tτ b_y3 hm18
      refine m_iload_n C dL_law_18 rfl rfl ?_
      refine m_aload_n C dL_law_19 rfl rfl ?_
      refine m_slen C hX hbl hbA hL31 dL_law_20 (fun x1 tx1 => ?_)
      have b2 : IV x1 0 3072 := ⟨by omega, by omega⟩
      refine m_bipush (v := 6) C dL_law_21 (by decide) ?_
      refine m_isub C dL_law_23 ?_
      refine m_topi (fun x3 ex3 => ?_)
      have tx3 : x3.toInt = x1.toInt - 6 := by rw [ex3, ti_subv b2 kc_6 (by decide), kt_6]
      have b4 : IV x3 (-6) 3066 := by rw [ex3]; exact iv_sub b2 kc_6 (by decide)
      refine m_icmp_gt (tgt := 1034) C dL_law_24 (by decide) (fun c5 => ?_) (fun c5 => ?_)
      · have f6 : x3.toInt < y3.toInt := by
          have q : _ := c5
          simp only [ti_nle, ti_nlt, ti_le, ti_lt, ti_eq, ti_ne, Classical.not_not] at q
          omega
        refine m_iconst (v := 1) C dL_law_1034 (by decide) ?_
        exact m_law1 C hG0 hr hlk ⟨by omega, by omega⟩ dL_law_1035
      · have f7 : y3.toInt ≤ x3.toInt := by
          have q : _ := c5
          simp only [ti_nle, ti_nlt, ti_le, ti_lt, ti_eq, ti_ne, Classical.not_not] at q
          omega
        have b8 : IV y3 0 3066 := ⟨by have q1 := b_y3; have q2 := b4; omega, by have q1 := b_y3; have q2 := b4; omega⟩
        have b9 : IV x3 0 3066 := ⟨by have q1 := b_y3; have q2 := b4; omega, by have q1 := b_y3; have q2 := b4; omega⟩
        refine m_aload_n C dL_law_27 rfl rfl ?_
        refine m_iload_n C dL_law_28 rfl rfl ?_
        refine m_sld C hX hbl hbA ⟨by omega, by omega⟩ dL_law_29 ?_
        refine m_topi (fun x10 ex10 => ?_)
        refine m_bipush (v := 31) C dL_law_30 (by decide) ?_
        refine m_iand C dL_law_32 ?_
        refine m_topi (fun x11 ex11 => ?_)
        have b12 : IV x11 0 31 := by rw [ex11]; exact iv_and_r kc_31 (by decide)
        by_cases s13 : x11.toInt < 0 ∨ 29 < x11.toInt
        · refine m_tableOut (tgt := 1028) C dL_law_33 s13 (by decide) ?_
          obtain ⟨x14, ex14⟩ : ∃ y : Int32, y = y3 + 6 := ⟨_, rfl⟩
          have tx14 : x14.toInt = y3.toInt + 6 := by rw [ex14, ti_addv b8 kc_6 (by decide), kt_6]
          have b15 : IV x14 6 3072 := by rw [ex14]; exact iv_add b8 kc_6 (by decide)
          refine m_iinc (v := x14) (L1 := [some (.ref b), some (.ref (G.1 0 0)), some (.ref (G.1 22 0)), some (.int x14)]) C dL_law_1028 rfl (by rw [ex14]; rfl) (by decide) rfl rfl ?_
          refine m_goto (tgt := 18) C dL_law_1031 (by decide) ?_
          refine m_widen (c2 := 250 + 8 * x14.toInt.toNat) (s2 := 5300 + 24 * x14.toInt.toNat) (by omega) (by omega) ?_
          exact ih18 τ x14 iτ rτ tτ (iv_wk b15 (by decide)) (by have q := hm18; omega)
        by_cases s16 : x11.toInt = 0
        · refine m_tableIn (tgt := 168) (off := 135) C dL_law_33 (by omega) (by omega) (by rw [s16]; rfl) (by decide) ?_
          have b17 : IV x11 0 0 := ⟨by omega, by omega⟩
          refine m_aload_n C dL_law_168 rfl rfl ?_
          refine m_aload_n C dL_law_169 rfl rfl ?_
          refine m_iload_n C dL_law_170 rfl rfl ?_
          refine m_iconst (v := 1) C dL_law_171 (by decide) ?_
          refine m_iadd C dL_law_172 ?_
          refine m_topi (fun x18 ex18 => ?_)
          have tx18 : x18.toInt = y3.toInt + 1 := by rw [ex18, ti_addv b8 kc_1 (by decide), kt_1]
          have b19 : IV x18 1 3067 := by rw [ex18]; exact iv_add b8 kc_1 (by decide)
          refine m_sld C hX hbl hbA ⟨by omega, by omega⟩ dL_law_173 ?_
          refine m_topi (fun x20 ex20 => ?_)
          refine m_aload_n C dL_law_174 rfl rfl ?_
          refine m_iload_n C dL_law_175 rfl rfl ?_
          refine m_iconst (v := 2) C dL_law_176 (by decide) ?_
          refine m_iadd C dL_law_177 ?_
          refine m_topi (fun x21 ex21 => ?_)
          have tx21 : x21.toInt = y3.toInt + 2 := by rw [ex21, ti_addv b8 kc_2 (by decide), kt_2]
          have b22 : IV x21 2 3068 := by rw [ex21]; exact iv_add b8 kc_2 (by decide)
          refine m_sld C hX hbl hbA ⟨by omega, by omega⟩ dL_law_178 ?_
          refine m_topi (fun x23 ex23 => ?_)
          refine m_aload_n C dL_law_179 rfl rfl ?_
          refine m_iload_n C dL_law_180 rfl rfl ?_
          refine m_iconst (v := 3) C dL_law_181 (by decide) ?_
          refine m_iadd C dL_law_182 ?_
          refine m_topi (fun x24 ex24 => ?_)
          have tx24 : x24.toInt = y3.toInt + 3 := by rw [ex24, ti_addv b8 kc_3 (by decide), kt_3]
          have b25 : IV x24 3 3069 := by rw [ex24]; exact iv_add b8 kc_3 (by decide)
          refine m_sld C hX hbl hbA ⟨by omega, by omega⟩ dL_law_183 ?_
          refine m_topi (fun x26 ex26 => ?_)
          refine m_callV (n := 3) (ci := 10) (st := []) C (c_X11_rowE l G τ (x20) (x23) (x26) iτ ) (by decide) (by decide) rfl rfl rfl q1_229 q1_226 q1_227 q1_228 q1_1 (by decide +kernel) rfl (by decide) ⟨by show (250 + 8 * y3.toInt.toNat) + 0 ≤ 600000; omega, by show (5300 + 24 * y3.toInt.toNat) + 0 ≤ 7302250; omega⟩ rfl (Nat.le_of_ble_eq_true rfl) dL_law_184 ?_
          rintro _ τ27 ⟨x30, rfl, i28, f29, b31, h33⟩
          have z34 := Hid.mk h33
          clear h33
          have r35 : RT τ27 := tτ.call f29 (by decide) (by decide)
          show MW p l e _ s m _ below meth c _ 4 G (250 + 8 * y3.toInt.toNat) (5300 + 24 * y3.toInt.toNat) 187 [some (.ref b), some (.ref (G.1 0 0)), some (.ref (G.1 22 0)), some (.int y3)] [.int x30] τ27
          refine m_pop C dL_law_187 rfl ?_
          refine m_aload_n C dL_law_188 rfl rfl ?_
          refine m_aload_n C dL_law_189 rfl rfl ?_
          refine m_iload_n C dL_law_190 rfl rfl ?_
          refine m_iconst (v := 1) C dL_law_191 (by decide) ?_
          refine m_iadd C dL_law_192 ?_
          refine m_topi (fun x36 ex36 => ?_)
          have tx36 : x36.toInt = y3.toInt + 1 := by rw [ex36, ti_addv b8 kc_1 (by decide), kt_1]
          have b37 : IV x36 1 3067 := by rw [ex36]; exact iv_add b8 kc_1 (by decide)
          refine m_sld C hX hbl hbA ⟨by omega, by omega⟩ dL_law_193 ?_
          refine m_eqs (w := x20) (by rw [ex20, show x36.toInt.toNat = x18.toInt.toNat by omega]) ?_
          refine m_aload_n C dL_law_194 rfl rfl ?_
          refine m_iload_n C dL_law_195 rfl rfl ?_
          refine m_iconst (v := 2) C dL_law_196 (by decide) ?_
          refine m_iadd C dL_law_197 ?_
          refine m_topi (fun x38 ex38 => ?_)
          have tx38 : x38.toInt = y3.toInt + 2 := by rw [ex38, ti_addv b8 kc_2 (by decide), kt_2]
          have b39 : IV x38 2 3068 := by rw [ex38]; exact iv_add b8 kc_2 (by decide)
          refine m_sld C hX hbl hbA ⟨by omega, by omega⟩ dL_law_198 ?_
          refine m_eqs (w := x23) (by rw [ex23, show x38.toInt.toNat = x21.toInt.toNat by omega]) ?_
          refine m_aload_n C dL_law_199 rfl rfl ?_
          refine m_iload_n C dL_law_200 rfl rfl ?_
          refine m_iconst (v := 3) C dL_law_201 (by decide) ?_
          refine m_iadd C dL_law_202 ?_
          refine m_topi (fun x40 ex40 => ?_)
          have tx40 : x40.toInt = y3.toInt + 3 := by rw [ex40, ti_addv b8 kc_3 (by decide), kt_3]
          have b41 : IV x40 3 3069 := by rw [ex40]; exact iv_add b8 kc_3 (by decide)
          refine m_sld C hX hbl hbA ⟨by omega, by omega⟩ dL_law_203 ?_
          refine m_eqs (w := x26) (by rw [ex26, show x40.toInt.toNat = x24.toInt.toNat by omega]) ?_
          refine m_callV (n := 3) (ci := 11) (st := []) C (c_X12_rowE l G τ27 (x20) (x23) (x26) i28 ) (by decide) (by decide) rfl rfl rfl q4_183 q4_180 q4_181 q4_182 q1_7 (by decide +kernel) rfl (by decide) ⟨by show (250 + 8 * y3.toInt.toNat) + 0 ≤ 600000; omega, by show (5300 + 24 * y3.toInt.toNat) + 0 ≤ 7302250; omega⟩ rfl (Nat.le_of_ble_eq_true rfl) dL_law_204 ?_
          rintro _ τ42 ⟨x45, rfl, i43, f44, b46, h48⟩
          have g49 := Rel.rowB rτ f29 f44 z34 h48
          clear h48 z34
          have r50 : Rel τ42 := g49.1
          have q51 := g49.2
          have r52 : RT τ42 := r35.call f44 (by decide) (by decide)
          show MW p l e _ s m _ below meth c _ 4 G (250 + 8 * y3.toInt.toNat) (5300 + 24 * y3.toInt.toNat) 207 [some (.ref b), some (.ref (G.1 0 0)), some (.ref (G.1 22 0)), some (.int y3)] [.int x45] τ42
          refine m_pop C dL_law_207 rfl ?_
          refine m_goto (tgt := 1028) C dL_law_208 (by decide) ?_
          obtain ⟨x53, ex53⟩ : ∃ y : Int32, y = y3 + 6 := ⟨_, rfl⟩
          have tx53 : x53.toInt = y3.toInt + 6 := by rw [ex53, ti_addv b8 kc_6 (by decide), kt_6]
          have b54 : IV x53 6 3072 := by rw [ex53]; exact iv_add b8 kc_6 (by decide)
          refine m_iinc (v := x53) (L1 := [some (.ref b), some (.ref (G.1 0 0)), some (.ref (G.1 22 0)), some (.int x53)]) C dL_law_1028 rfl (by rw [ex53]; rfl) (by decide) rfl rfl ?_
          refine m_goto (tgt := 18) C dL_law_1031 (by decide) ?_
          refine m_widen (c2 := 250 + 8 * x53.toInt.toNat) (s2 := 5300 + 24 * x53.toInt.toNat) (by omega) (by omega) ?_
          exact ih18 τ42 x53 i43 r50 r52 (iv_wk b54 (by decide)) (by have q := hm18; omega)
        by_cases s55 : x11.toInt = 1
        · refine m_tableIn (tgt := 211) (off := 178) C dL_law_33 (by omega) (by omega) (by rw [s55]; rfl) (by decide) ?_
          have b56 : IV x11 1 1 := ⟨by omega, by omega⟩
          refine m_aload_n C dL_law_211 rfl rfl ?_
          refine m_aload_n C dL_law_212 rfl rfl ?_
          refine m_iload_n C dL_law_213 rfl rfl ?_
          refine m_iconst (v := 1) C dL_law_214 (by decide) ?_
          refine m_iadd C dL_law_215 ?_
          refine m_topi (fun x57 ex57 => ?_)
          have tx57 : x57.toInt = y3.toInt + 1 := by rw [ex57, ti_addv b8 kc_1 (by decide), kt_1]
          have b58 : IV x57 1 3067 := by rw [ex57]; exact iv_add b8 kc_1 (by decide)
          refine m_sld C hX hbl hbA ⟨by omega, by omega⟩ dL_law_216 ?_
          refine m_topi (fun x59 ex59 => ?_)
          refine m_aload_n C dL_law_217 rfl rfl ?_
          refine m_iload_n C dL_law_218 rfl rfl ?_
          refine m_iconst (v := 2) C dL_law_219 (by decide) ?_
          refine m_iadd C dL_law_220 ?_
          refine m_topi (fun x60 ex60 => ?_)
          have tx60 : x60.toInt = y3.toInt + 2 := by rw [ex60, ti_addv b8 kc_2 (by decide), kt_2]
          have b61 : IV x60 2 3068 := by rw [ex60]; exact iv_add b8 kc_2 (by decide)
          refine m_sld C hX hbl hbA ⟨by omega, by omega⟩ dL_law_221 ?_
          refine m_topi (fun x62 ex62 => ?_)
          refine m_aload_n C dL_law_222 rfl rfl ?_
          refine m_iload_n C dL_law_223 rfl rfl ?_
          refine m_iconst (v := 3) C dL_law_224 (by decide) ?_
          refine m_iadd C dL_law_225 ?_
          refine m_topi (fun x63 ex63 => ?_)
          have tx63 : x63.toInt = y3.toInt + 3 := by rw [ex63, ti_addv b8 kc_3 (by decide), kt_3]
          have b64 : IV x63 3 3069 := by rw [ex63]; exact iv_add b8 kc_3 (by decide)
          refine m_sld C hX hbl hbA ⟨by omega, by omega⟩ dL_law_226 ?_
          refine m_topi (fun x65 ex65 => ?_)
          refine m_callV (n := 3) (ci := 10) (st := []) C (c_X11_setE l G τ (x59) (x62) (x65) iτ ) (by decide) (by decide) rfl rfl rfl q2_11 q2_8 q2_9 q2_10 q1_1 (by decide +kernel) rfl (by decide) ⟨by show (250 + 8 * y3.toInt.toNat) + 0 ≤ 600000; omega, by show (5300 + 24 * y3.toInt.toNat) + 0 ≤ 7302250; omega⟩ rfl (Nat.le_of_ble_eq_true rfl) dL_law_227 ?_
          rintro _ τ66 ⟨x69, rfl, i67, f68, b70, h72⟩
          have z73 := Hid.mk h72
          clear h72
          have r74 : Rel τ66 := rτ.call f68 (by decide) (by decide)
          have r75 : RT τ66 := tτ.call f68 (by decide) (by decide)
          show MW p l e _ s m _ below meth c _ 4 G (250 + 8 * y3.toInt.toNat) (5300 + 24 * y3.toInt.toNat) 230 [some (.ref b), some (.ref (G.1 0 0)), some (.ref (G.1 22 0)), some (.int y3)] [.int x69] τ66
          refine m_pop C dL_law_230 rfl ?_
          refine m_aload_n C dL_law_231 rfl rfl ?_
          refine m_aload_n C dL_law_232 rfl rfl ?_
          refine m_iload_n C dL_law_233 rfl rfl ?_
          refine m_iconst (v := 1) C dL_law_234 (by decide) ?_
          refine m_iadd C dL_law_235 ?_
          refine m_topi (fun x76 ex76 => ?_)
          have tx76 : x76.toInt = y3.toInt + 1 := by rw [ex76, ti_addv b8 kc_1 (by decide), kt_1]
          have b77 : IV x76 1 3067 := by rw [ex76]; exact iv_add b8 kc_1 (by decide)
          refine m_sld C hX hbl hbA ⟨by omega, by omega⟩ dL_law_236 ?_
          refine m_eqs (w := x59) (by rw [ex59, show x76.toInt.toNat = x57.toInt.toNat by omega]) ?_
          refine m_aload_n C dL_law_237 rfl rfl ?_
          refine m_iload_n C dL_law_238 rfl rfl ?_
          refine m_iconst (v := 2) C dL_law_239 (by decide) ?_
          refine m_iadd C dL_law_240 ?_
          refine m_topi (fun x78 ex78 => ?_)
          have tx78 : x78.toInt = y3.toInt + 2 := by rw [ex78, ti_addv b8 kc_2 (by decide), kt_2]
          have b79 : IV x78 2 3068 := by rw [ex78]; exact iv_add b8 kc_2 (by decide)
          refine m_sld C hX hbl hbA ⟨by omega, by omega⟩ dL_law_241 ?_
          refine m_eqs (w := x62) (by rw [ex62, show x78.toInt.toNat = x60.toInt.toNat by omega]) ?_
          refine m_aload_n C dL_law_242 rfl rfl ?_
          refine m_iload_n C dL_law_243 rfl rfl ?_
          refine m_iconst (v := 3) C dL_law_244 (by decide) ?_
          refine m_iadd C dL_law_245 ?_
          refine m_topi (fun x80 ex80 => ?_)
          have tx80 : x80.toInt = y3.toInt + 3 := by rw [ex80, ti_addv b8 kc_3 (by decide), kt_3]
          have b81 : IV x80 3 3069 := by rw [ex80]; exact iv_add b8 kc_3 (by decide)
          refine m_sld C hX hbl hbA ⟨by omega, by omega⟩ dL_law_246 ?_
          refine m_eqs (w := x65) (by rw [ex65, show x80.toInt.toNat = x63.toInt.toNat by omega]) ?_
          refine m_callV (n := 3) (ci := 11) (st := []) C (c_X12_setE l G τ66 (x59) (x62) (x65) i67 ) (by decide) (by decide) rfl rfl rfl q4_205 q4_202 q4_203 q4_204 q1_7 (by decide +kernel) rfl (by decide) ⟨by show (250 + 8 * y3.toInt.toNat) + 0 ≤ 600000; omega, by show (5300 + 24 * y3.toInt.toNat) + 0 ≤ 7302250; omega⟩ rfl (Nat.le_of_ble_eq_true rfl) dL_law_247 ?_
          rintro _ τ82 ⟨x85, rfl, i83, f84, b86, h88⟩
          have g89 := Rel.setB rτ f68 f84 z73 h88
          clear h88 z73
          have r90 : Rel τ82 := r74.call f84 (by decide) (by decide)
          have r91 : RT τ82 := r75.call f84 (by decide) (by decide)
          show MW p l e _ s m _ below meth c _ 4 G (250 + 8 * y3.toInt.toNat) (5300 + 24 * y3.toInt.toNat) 250 [some (.ref b), some (.ref (G.1 0 0)), some (.ref (G.1 22 0)), some (.int y3)] [.int x85] τ82
          refine m_pop C dL_law_250 rfl ?_
          refine m_goto (tgt := 1028) C dL_law_251 (by decide) ?_
          obtain ⟨x92, ex92⟩ : ∃ y : Int32, y = y3 + 6 := ⟨_, rfl⟩
          have tx92 : x92.toInt = y3.toInt + 6 := by rw [ex92, ti_addv b8 kc_6 (by decide), kt_6]
          have b93 : IV x92 6 3072 := by rw [ex92]; exact iv_add b8 kc_6 (by decide)
          refine m_iinc (v := x92) (L1 := [some (.ref b), some (.ref (G.1 0 0)), some (.ref (G.1 22 0)), some (.int x92)]) C dL_law_1028 rfl (by rw [ex92]; rfl) (by decide) rfl rfl ?_
          refine m_goto (tgt := 18) C dL_law_1031 (by decide) ?_
          refine m_widen (c2 := 250 + 8 * x92.toInt.toNat) (s2 := 5300 + 24 * x92.toInt.toNat) (by omega) (by omega) ?_
          exact ih18 τ82 x92 i83 r90 r91 (iv_wk b93 (by decide)) (by have q := hm18; omega)
        by_cases s94 : x11.toInt = 2
        · refine m_tableIn (tgt := 254) (off := 221) C dL_law_33 (by omega) (by omega) (by rw [s94]; rfl) (by decide) ?_
          have b95 : IV x11 2 2 := ⟨by omega, by omega⟩
          refine m_aload_n C dL_law_254 rfl rfl ?_
          refine m_aload_n C dL_law_255 rfl rfl ?_
          refine m_iload_n C dL_law_256 rfl rfl ?_
          refine m_iconst (v := 1) C dL_law_257 (by decide) ?_
          refine m_iadd C dL_law_258 ?_
          refine m_topi (fun x96 ex96 => ?_)
          have tx96 : x96.toInt = y3.toInt + 1 := by rw [ex96, ti_addv b8 kc_1 (by decide), kt_1]
          have b97 : IV x96 1 3067 := by rw [ex96]; exact iv_add b8 kc_1 (by decide)
          refine m_sld C hX hbl hbA ⟨by omega, by omega⟩ dL_law_259 ?_
          refine m_topi (fun x98 ex98 => ?_)
          refine m_aload_n C dL_law_260 rfl rfl ?_
          refine m_iload_n C dL_law_261 rfl rfl ?_
          refine m_iconst (v := 2) C dL_law_262 (by decide) ?_
          refine m_iadd C dL_law_263 ?_
          refine m_topi (fun x99 ex99 => ?_)
          have tx99 : x99.toInt = y3.toInt + 2 := by rw [ex99, ti_addv b8 kc_2 (by decide), kt_2]
          have b100 : IV x99 2 3068 := by rw [ex99]; exact iv_add b8 kc_2 (by decide)
          refine m_sld C hX hbl hbA ⟨by omega, by omega⟩ dL_law_264 ?_
          refine m_topi (fun x101 ex101 => ?_)
          refine m_aload_n C dL_law_265 rfl rfl ?_
          refine m_iload_n C dL_law_266 rfl rfl ?_
          refine m_iconst (v := 3) C dL_law_267 (by decide) ?_
          refine m_iadd C dL_law_268 ?_
          refine m_topi (fun x102 ex102 => ?_)
          have tx102 : x102.toInt = y3.toInt + 3 := by rw [ex102, ti_addv b8 kc_3 (by decide), kt_3]
          have b103 : IV x102 3 3069 := by rw [ex102]; exact iv_add b8 kc_3 (by decide)
          refine m_sld C hX hbl hbA ⟨by omega, by omega⟩ dL_law_269 ?_
          refine m_topi (fun x104 ex104 => ?_)
          refine m_aload_n C dL_law_270 rfl rfl ?_
          refine m_iload_n C dL_law_271 rfl rfl ?_
          refine m_iconst (v := 4) C dL_law_272 (by decide) ?_
          refine m_iadd C dL_law_273 ?_
          refine m_topi (fun x105 ex105 => ?_)
          have tx105 : x105.toInt = y3.toInt + 4 := by rw [ex105, ti_addv b8 kc_4 (by decide), kt_4]
          have b106 : IV x105 4 3070 := by rw [ex105]; exact iv_add b8 kc_4 (by decide)
          refine m_sld C hX hbl hbA ⟨by omega, by omega⟩ dL_law_274 ?_
          refine m_topi (fun x107 ex107 => ?_)
          refine m_aload_n C dL_law_275 rfl rfl ?_
          refine m_iload_n C dL_law_276 rfl rfl ?_
          refine m_iconst (v := 5) C dL_law_277 (by decide) ?_
          refine m_iadd C dL_law_278 ?_
          refine m_topi (fun x108 ex108 => ?_)
          have tx108 : x108.toInt = y3.toInt + 5 := by rw [ex108, ti_addv b8 kc_5 (by decide), kt_5]
          have b109 : IV x108 5 3071 := by rw [ex108]; exact iv_add b8 kc_5 (by decide)
          refine m_sld C hX hbl hbA ⟨by omega, by omega⟩ dL_law_279 ?_
          refine m_topi (fun x110 ex110 => ?_)
          refine m_callV (n := 5) (ci := 10) (st := []) C (c_X11_copyE l G τ (x98) (x101) (x104) (x107) (x110) iτ ) (by decide) (by decide) rfl rfl rfl q2_23 q2_20 q2_21 q2_22 q1_1 (by decide +kernel) rfl (by decide) ⟨by show (250 + 8 * y3.toInt.toNat) + 0 ≤ 600000; omega, by show (5300 + 24 * y3.toInt.toNat) + 0 ≤ 7302250; omega⟩ rfl (Nat.le_of_ble_eq_true rfl) dL_law_280 ?_
          rintro _ τ111 ⟨x114, rfl, i112, f113, b115, h117⟩
          have z118 := Hid.mk h117
          clear h117
          have r119 : Rel τ111 := rτ.call f113 (by decide) (by decide)
          have r120 : RT τ111 := tτ.call f113 (by decide) (by decide)
          show MW p l e _ s m _ below meth c _ 4 G (250 + 8 * y3.toInt.toNat) (5300 + 24 * y3.toInt.toNat) 283 [some (.ref b), some (.ref (G.1 0 0)), some (.ref (G.1 22 0)), some (.int y3)] [.int x114] τ111
          refine m_pop C dL_law_283 rfl ?_
          refine m_aload_n C dL_law_284 rfl rfl ?_
          refine m_aload_n C dL_law_285 rfl rfl ?_
          refine m_iload_n C dL_law_286 rfl rfl ?_
          refine m_iconst (v := 1) C dL_law_287 (by decide) ?_
          refine m_iadd C dL_law_288 ?_
          refine m_topi (fun x121 ex121 => ?_)
          have tx121 : x121.toInt = y3.toInt + 1 := by rw [ex121, ti_addv b8 kc_1 (by decide), kt_1]
          have b122 : IV x121 1 3067 := by rw [ex121]; exact iv_add b8 kc_1 (by decide)
          refine m_sld C hX hbl hbA ⟨by omega, by omega⟩ dL_law_289 ?_
          refine m_eqs (w := x98) (by rw [ex98, show x121.toInt.toNat = x96.toInt.toNat by omega]) ?_
          refine m_aload_n C dL_law_290 rfl rfl ?_
          refine m_iload_n C dL_law_291 rfl rfl ?_
          refine m_iconst (v := 2) C dL_law_292 (by decide) ?_
          refine m_iadd C dL_law_293 ?_
          refine m_topi (fun x123 ex123 => ?_)
          have tx123 : x123.toInt = y3.toInt + 2 := by rw [ex123, ti_addv b8 kc_2 (by decide), kt_2]
          have b124 : IV x123 2 3068 := by rw [ex123]; exact iv_add b8 kc_2 (by decide)
          refine m_sld C hX hbl hbA ⟨by omega, by omega⟩ dL_law_294 ?_
          refine m_eqs (w := x101) (by rw [ex101, show x123.toInt.toNat = x99.toInt.toNat by omega]) ?_
          refine m_aload_n C dL_law_295 rfl rfl ?_
          refine m_iload_n C dL_law_296 rfl rfl ?_
          refine m_iconst (v := 3) C dL_law_297 (by decide) ?_
          refine m_iadd C dL_law_298 ?_
          refine m_topi (fun x125 ex125 => ?_)
          have tx125 : x125.toInt = y3.toInt + 3 := by rw [ex125, ti_addv b8 kc_3 (by decide), kt_3]
          have b126 : IV x125 3 3069 := by rw [ex125]; exact iv_add b8 kc_3 (by decide)
          refine m_sld C hX hbl hbA ⟨by omega, by omega⟩ dL_law_299 ?_
          refine m_eqs (w := x104) (by rw [ex104, show x125.toInt.toNat = x102.toInt.toNat by omega]) ?_
          refine m_aload_n C dL_law_300 rfl rfl ?_
          refine m_iload_n C dL_law_301 rfl rfl ?_
          refine m_iconst (v := 4) C dL_law_302 (by decide) ?_
          refine m_iadd C dL_law_303 ?_
          refine m_topi (fun x127 ex127 => ?_)
          have tx127 : x127.toInt = y3.toInt + 4 := by rw [ex127, ti_addv b8 kc_4 (by decide), kt_4]
          have b128 : IV x127 4 3070 := by rw [ex127]; exact iv_add b8 kc_4 (by decide)
          refine m_sld C hX hbl hbA ⟨by omega, by omega⟩ dL_law_304 ?_
          refine m_eqs (w := x107) (by rw [ex107, show x127.toInt.toNat = x105.toInt.toNat by omega]) ?_
          refine m_aload_n C dL_law_305 rfl rfl ?_
          refine m_iload_n C dL_law_306 rfl rfl ?_
          refine m_iconst (v := 5) C dL_law_307 (by decide) ?_
          refine m_iadd C dL_law_308 ?_
          refine m_topi (fun x129 ex129 => ?_)
          have tx129 : x129.toInt = y3.toInt + 5 := by rw [ex129, ti_addv b8 kc_5 (by decide), kt_5]
          have b130 : IV x129 5 3071 := by rw [ex129]; exact iv_add b8 kc_5 (by decide)
          refine m_sld C hX hbl hbA ⟨by omega, by omega⟩ dL_law_309 ?_
          refine m_eqs (w := x110) (by rw [ex110, show x129.toInt.toNat = x108.toInt.toNat by omega]) ?_
          refine m_callV (n := 5) (ci := 11) (st := []) C (c_X12_copyE l G τ111 (x98) (x101) (x104) (x107) (x110) i112 ) (by decide) (by decide) rfl rfl rfl q4_212 q4_209 q4_210 q4_211 q1_7 (by decide +kernel) rfl (by decide) ⟨by show (250 + 8 * y3.toInt.toNat) + 0 ≤ 600000; omega, by show (5300 + 24 * y3.toInt.toNat) + 0 ≤ 7302250; omega⟩ rfl (Nat.le_of_ble_eq_true rfl) dL_law_310 ?_
          rintro _ τ131 ⟨x134, rfl, i132, f133, b135, h137⟩
          have g138 := Rel.copyB rτ f113 f133 z118 h137
          clear h137 z118
          have r139 : Rel τ131 := r119.call f133 (by decide) (by decide)
          have r140 : RT τ131 := r120.call f133 (by decide) (by decide)
          show MW p l e _ s m _ below meth c _ 4 G (250 + 8 * y3.toInt.toNat) (5300 + 24 * y3.toInt.toNat) 313 [some (.ref b), some (.ref (G.1 0 0)), some (.ref (G.1 22 0)), some (.int y3)] [.int x134] τ131
          refine m_pop C dL_law_313 rfl ?_
          refine m_goto (tgt := 1028) C dL_law_314 (by decide) ?_
          obtain ⟨x141, ex141⟩ : ∃ y : Int32, y = y3 + 6 := ⟨_, rfl⟩
          have tx141 : x141.toInt = y3.toInt + 6 := by rw [ex141, ti_addv b8 kc_6 (by decide), kt_6]
          have b142 : IV x141 6 3072 := by rw [ex141]; exact iv_add b8 kc_6 (by decide)
          refine m_iinc (v := x141) (L1 := [some (.ref b), some (.ref (G.1 0 0)), some (.ref (G.1 22 0)), some (.int x141)]) C dL_law_1028 rfl (by rw [ex141]; rfl) (by decide) rfl rfl ?_
          refine m_goto (tgt := 18) C dL_law_1031 (by decide) ?_
          refine m_widen (c2 := 250 + 8 * x141.toInt.toNat) (s2 := 5300 + 24 * x141.toInt.toNat) (by omega) (by omega) ?_
          exact ih18 τ131 x141 i132 r139 r140 (iv_wk b142 (by decide)) (by have q := hm18; omega)
        by_cases s143 : x11.toInt = 3
        · refine m_tableIn (tgt := 317) (off := 284) C dL_law_33 (by omega) (by omega) (by rw [s143]; rfl) (by decide) ?_
          have b144 : IV x11 3 3 := ⟨by omega, by omega⟩
          refine m_aload_n C dL_law_317 rfl rfl ?_
          refine m_aload_n C dL_law_318 rfl rfl ?_
          refine m_iload_n C dL_law_319 rfl rfl ?_
          refine m_iconst (v := 1) C dL_law_320 (by decide) ?_
          refine m_iadd C dL_law_321 ?_
          refine m_topi (fun x145 ex145 => ?_)
          have tx145 : x145.toInt = y3.toInt + 1 := by rw [ex145, ti_addv b8 kc_1 (by decide), kt_1]
          have b146 : IV x145 1 3067 := by rw [ex145]; exact iv_add b8 kc_1 (by decide)
          refine m_sld C hX hbl hbA ⟨by omega, by omega⟩ dL_law_322 ?_
          refine m_topi (fun x147 ex147 => ?_)
          refine m_callV (n := 1) (ci := 10) (st := []) C (c_X11_dropE l G τ (x147) iτ ) (by decide) (by decide) rfl rfl rfl q2_34 q2_31 q2_32 q2_33 q1_1 (by decide +kernel) rfl (by decide) ⟨by show (250 + 8 * y3.toInt.toNat) + 0 ≤ 600000; omega, by show (5300 + 24 * y3.toInt.toNat) + 0 ≤ 7302250; omega⟩ rfl (Nat.le_of_ble_eq_true rfl) dL_law_323 ?_
          rintro _ τ148 ⟨x151, rfl, i149, f150, b152, h154⟩
          have z155 := Hid.mk h154
          clear h154
          have r156 : RT τ148 := tτ.call f150 (by decide) (by decide)
          show MW p l e _ s m _ below meth c _ 4 G (250 + 8 * y3.toInt.toNat) (5300 + 24 * y3.toInt.toNat) 326 [some (.ref b), some (.ref (G.1 0 0)), some (.ref (G.1 22 0)), some (.int y3)] [.int x151] τ148
          refine m_pop C dL_law_326 rfl ?_
          refine m_aload_n C dL_law_327 rfl rfl ?_
          refine m_aload_n C dL_law_328 rfl rfl ?_
          refine m_iload_n C dL_law_329 rfl rfl ?_
          refine m_iconst (v := 1) C dL_law_330 (by decide) ?_
          refine m_iadd C dL_law_331 ?_
          refine m_topi (fun x157 ex157 => ?_)
          have tx157 : x157.toInt = y3.toInt + 1 := by rw [ex157, ti_addv b8 kc_1 (by decide), kt_1]
          have b158 : IV x157 1 3067 := by rw [ex157]; exact iv_add b8 kc_1 (by decide)
          refine m_sld C hX hbl hbA ⟨by omega, by omega⟩ dL_law_332 ?_
          refine m_eqs (w := x147) (by rw [ex147, show x157.toInt.toNat = x145.toInt.toNat by omega]) ?_
          refine m_callV (n := 1) (ci := 11) (st := []) C (c_X12_dropE l G τ148 (x147) i149 ) (by decide) (by decide) rfl rfl rfl q4_216 q4_213 q4_214 q4_215 q1_7 (by decide +kernel) rfl (by decide) ⟨by show (250 + 8 * y3.toInt.toNat) + 0 ≤ 600000; omega, by show (5300 + 24 * y3.toInt.toNat) + 0 ≤ 7302250; omega⟩ rfl (Nat.le_of_ble_eq_true rfl) dL_law_333 ?_
          rintro _ τ159 ⟨x162, rfl, i160, f161, b163, h165⟩
          have g166 := Rel.dropB rτ f150 f161 z155 h165
          clear h165 z155
          have r167 : Rel τ159 := g166.1
          have q168 := g166.2
          have r169 : RT τ159 := r156.call f161 (by decide) (by decide)
          show MW p l e _ s m _ below meth c _ 4 G (250 + 8 * y3.toInt.toNat) (5300 + 24 * y3.toInt.toNat) 336 [some (.ref b), some (.ref (G.1 0 0)), some (.ref (G.1 22 0)), some (.int y3)] [.int x162] τ159
          refine m_pop C dL_law_336 rfl ?_
          refine m_goto (tgt := 1028) C dL_law_337 (by decide) ?_
          obtain ⟨x170, ex170⟩ : ∃ y : Int32, y = y3 + 6 := ⟨_, rfl⟩
          have tx170 : x170.toInt = y3.toInt + 6 := by rw [ex170, ti_addv b8 kc_6 (by decide), kt_6]
          have b171 : IV x170 6 3072 := by rw [ex170]; exact iv_add b8 kc_6 (by decide)
          refine m_iinc (v := x170) (L1 := [some (.ref b), some (.ref (G.1 0 0)), some (.ref (G.1 22 0)), some (.int x170)]) C dL_law_1028 rfl (by rw [ex170]; rfl) (by decide) rfl rfl ?_
          refine m_goto (tgt := 18) C dL_law_1031 (by decide) ?_
          refine m_widen (c2 := 250 + 8 * x170.toInt.toNat) (s2 := 5300 + 24 * x170.toInt.toNat) (by omega) (by omega) ?_
          exact ih18 τ159 x170 i160 r167 r169 (iv_wk b171 (by decide)) (by have q := hm18; omega)
        by_cases s172 : x11.toInt = 4
        · refine m_tableIn (tgt := 340) (off := 307) C dL_law_33 (by omega) (by omega) (by rw [s172]; rfl) (by decide) ?_
          have b173 : IV x11 4 4 := ⟨by omega, by omega⟩
          refine m_aload_n C dL_law_340 rfl rfl ?_
          refine m_aload_n C dL_law_341 rfl rfl ?_
          refine m_iload_n C dL_law_342 rfl rfl ?_
          refine m_iconst (v := 1) C dL_law_343 (by decide) ?_
          refine m_iadd C dL_law_344 ?_
          refine m_topi (fun x174 ex174 => ?_)
          have tx174 : x174.toInt = y3.toInt + 1 := by rw [ex174, ti_addv b8 kc_1 (by decide), kt_1]
          have b175 : IV x174 1 3067 := by rw [ex174]; exact iv_add b8 kc_1 (by decide)
          refine m_sld C hX hbl hbA ⟨by omega, by omega⟩ dL_law_345 ?_
          refine m_topi (fun x176 ex176 => ?_)
          refine m_i2l C dL_law_346 ?_
          refine m_bipush (v := 32) C dL_law_347 (by decide) ?_
          refine m_lshl C dL_law_349 ?_
          refine m_topl (fun w177 ew177 => ?_)
          refine m_aload_n C dL_law_350 rfl rfl ?_
          refine m_iload_n C dL_law_351 rfl rfl ?_
          refine m_iconst (v := 2) C dL_law_352 (by decide) ?_
          refine m_iadd C dL_law_353 ?_
          refine m_topi (fun x178 ex178 => ?_)
          have tx178 : x178.toInt = y3.toInt + 2 := by rw [ex178, ti_addv b8 kc_2 (by decide), kt_2]
          have b179 : IV x178 2 3068 := by rw [ex178]; exact iv_add b8 kc_2 (by decide)
          refine m_sld C hX hbl hbA ⟨by omega, by omega⟩ dL_law_354 ?_
          refine m_topi (fun x180 ex180 => ?_)
          refine m_i2l C dL_law_355 ?_
          refine m_ldc2 (v := 4294967295) C dL_law_356 q5_222 ?_
          refine m_land C dL_law_359 ?_
          refine m_topl (fun w181 ew181 => ?_)
          refine m_lor C dL_law_360 ?_
          refine m_topl (fun w182 ew182 => ?_)
          refine m_aload_n C dL_law_361 rfl rfl ?_
          refine m_iload_n C dL_law_362 rfl rfl ?_
          refine m_iconst (v := 3) C dL_law_363 (by decide) ?_
          refine m_iadd C dL_law_364 ?_
          refine m_topi (fun x183 ex183 => ?_)
          have tx183 : x183.toInt = y3.toInt + 3 := by rw [ex183, ti_addv b8 kc_3 (by decide), kt_3]
          have b184 : IV x183 3 3069 := by rw [ex183]; exact iv_add b8 kc_3 (by decide)
          refine m_sld C hX hbl hbA ⟨by omega, by omega⟩ dL_law_365 ?_
          refine m_topi (fun x185 ex185 => ?_)
          refine m_callV (n := 2) (ci := 10) (st := []) C (c_X11_feedT l G τ (w182) (x185) iτ ) (by decide) (by decide) rfl rfl rfl q2_42 q2_39 q2_40 q2_41 q1_1 (by decide +kernel) rfl (by decide) ⟨by show (250 + 8 * y3.toInt.toNat) + 0 ≤ 600000; omega, by show (5300 + 24 * y3.toInt.toNat) + 0 ≤ 7302250; omega⟩ rfl (Nat.le_of_ble_eq_true rfl) dL_law_366 ?_
          rintro _ τ186 ⟨x189, rfl, i187, f188, b190, h192⟩
          have z193 := Hid.mk h192
          clear h192
          show MW p l e _ s m _ below meth c _ 4 G (250 + 8 * y3.toInt.toNat) (5300 + 24 * y3.toInt.toNat) 369 [some (.ref b), some (.ref (G.1 0 0)), some (.ref (G.1 22 0)), some (.int y3)] [.int x189] τ186
          refine m_pop C dL_law_369 rfl ?_
          refine m_aload_n C dL_law_370 rfl rfl ?_
          refine m_aload_n C dL_law_371 rfl rfl ?_
          refine m_iload_n C dL_law_372 rfl rfl ?_
          refine m_iconst (v := 1) C dL_law_373 (by decide) ?_
          refine m_iadd C dL_law_374 ?_
          refine m_topi (fun x194 ex194 => ?_)
          have tx194 : x194.toInt = y3.toInt + 1 := by rw [ex194, ti_addv b8 kc_1 (by decide), kt_1]
          have b195 : IV x194 1 3067 := by rw [ex194]; exact iv_add b8 kc_1 (by decide)
          refine m_sld C hX hbl hbA ⟨by omega, by omega⟩ dL_law_375 ?_
          refine m_eqs (w := x176) (by rw [ex176, show x194.toInt.toNat = x174.toInt.toNat by omega]) ?_
          refine m_i2l C dL_law_376 ?_
          refine m_bipush (v := 32) C dL_law_377 (by decide) ?_
          refine m_lshl C dL_law_379 ?_
          refine m_topl (fun w196 ew196 => ?_)
          refine m_aload_n C dL_law_380 rfl rfl ?_
          refine m_iload_n C dL_law_381 rfl rfl ?_
          refine m_iconst (v := 2) C dL_law_382 (by decide) ?_
          refine m_iadd C dL_law_383 ?_
          refine m_topi (fun x197 ex197 => ?_)
          have tx197 : x197.toInt = y3.toInt + 2 := by rw [ex197, ti_addv b8 kc_2 (by decide), kt_2]
          have b198 : IV x197 2 3068 := by rw [ex197]; exact iv_add b8 kc_2 (by decide)
          refine m_sld C hX hbl hbA ⟨by omega, by omega⟩ dL_law_384 ?_
          refine m_eqs (w := x180) (by rw [ex180, show x197.toInt.toNat = x178.toInt.toNat by omega]) ?_
          refine m_i2l C dL_law_385 ?_
          refine m_ldc2 (v := 4294967295) C dL_law_386 q5_222 ?_
          refine m_land C dL_law_389 ?_
          refine m_topl (fun w199 ew199 => ?_)
          refine m_lor C dL_law_390 ?_
          refine m_topl (fun w200 ew200 => ?_)
          refine m_aload_n C dL_law_391 rfl rfl ?_
          refine m_iload_n C dL_law_392 rfl rfl ?_
          refine m_iconst (v := 3) C dL_law_393 (by decide) ?_
          refine m_iadd C dL_law_394 ?_
          refine m_topi (fun x201 ex201 => ?_)
          have tx201 : x201.toInt = y3.toInt + 3 := by rw [ex201, ti_addv b8 kc_3 (by decide), kt_3]
          have b202 : IV x201 3 3069 := by rw [ex201]; exact iv_add b8 kc_3 (by decide)
          refine m_sld C hX hbl hbA ⟨by omega, by omega⟩ dL_law_395 ?_
          refine m_eqs (w := x185) (by rw [ex185, show x201.toInt.toNat = x183.toInt.toNat by omega]) ?_
          have q203 : w200 = w182 := by rw [ew200, ew196, ew199, ew182, ew177, ew181]
          refine m_callV (n := 2) (ci := 11) (st := []) C (c_X12_feedT l G τ186 (w200) (x185) i187 ) (by decide) (by decide) rfl rfl rfl q4_220 q4_217 q4_218 q4_219 q1_7 (by decide +kernel) rfl (by decide) ⟨by show (250 + 8 * y3.toInt.toNat) + 0 ≤ 600000; omega, by show (5300 + 24 * y3.toInt.toNat) + 0 ≤ 7302250; omega⟩ rfl (Nat.le_of_ble_eq_true rfl) dL_law_396 ?_
          rintro _ τ204 ⟨x207, rfl, i205, f206, b208, h210⟩
          rw [q203] at h210
          have g211 := RT.feedB rτ tτ f188 f206 z193 h210
          clear h210 z193
          have r212 : Rel τ204 := g211.1
          have r213 : RT τ204 := g211.2.1
          have q214 := g211.2.2
          show MW p l e _ s m _ below meth c _ 4 G (250 + 8 * y3.toInt.toNat) (5300 + 24 * y3.toInt.toNat) 399 [some (.ref b), some (.ref (G.1 0 0)), some (.ref (G.1 22 0)), some (.int y3)] [.int x207] τ204
          refine m_pop C dL_law_399 rfl ?_
          refine m_goto (tgt := 1028) C dL_law_400 (by decide) ?_
          obtain ⟨x215, ex215⟩ : ∃ y : Int32, y = y3 + 6 := ⟨_, rfl⟩
          have tx215 : x215.toInt = y3.toInt + 6 := by rw [ex215, ti_addv b8 kc_6 (by decide), kt_6]
          have b216 : IV x215 6 3072 := by rw [ex215]; exact iv_add b8 kc_6 (by decide)
          refine m_iinc (v := x215) (L1 := [some (.ref b), some (.ref (G.1 0 0)), some (.ref (G.1 22 0)), some (.int x215)]) C dL_law_1028 rfl (by rw [ex215]; rfl) (by decide) rfl rfl ?_
          refine m_goto (tgt := 18) C dL_law_1031 (by decide) ?_
          refine m_widen (c2 := 250 + 8 * x215.toInt.toNat) (s2 := 5300 + 24 * x215.toInt.toNat) (by omega) (by omega) ?_
          exact ih18 τ204 x215 i205 r212 r213 (iv_wk b216 (by decide)) (by have q := hm18; omega)
        by_cases s217 : x11.toInt = 5
        · refine m_tableIn (tgt := 403) (off := 370) C dL_law_33 (by omega) (by omega) (by rw [s217]; rfl) (by decide) ?_
          have b218 : IV x11 5 5 := ⟨by omega, by omega⟩
          refine m_aload_n C dL_law_403 rfl rfl ?_
          obtain ⟨⟨T, N, hTC, hTM⟩, hTL⟩ := id tτ
          refine m_callV (n := 0) (ci := 10) (st := []) C (c_X11_towerT l G τ T N  iτ hTC) (by decide) (by decide) rfl rfl rfl q2_51 q2_48 q2_49 q2_50 q1_1 (by decide +kernel) rfl (by decide) ⟨by show (250 + 8 * y3.toInt.toNat) + 8 ≤ 600000; omega, by show (5300 + 24 * y3.toInt.toNat) + 24 ≤ 7302250; omega⟩ rfl (Nat.le_of_ble_eq_true rfl) dL_law_404 ?_
          rintro _ τ219 ⟨x222, rfl, i220, f221, b223, h225⟩
          have z226 := Hid.mk h225
          clear h225
          show MW p l e _ s m _ below meth c _ 4 G ((250 + 8 * y3.toInt.toNat) + 8) ((5300 + 24 * y3.toInt.toNat) + 24) 407 [some (.ref b), some (.ref (G.1 0 0)), some (.ref (G.1 22 0)), some (.int y3)] [.int x222] τ219
          refine m_pop C dL_law_407 rfl ?_
          refine m_aload_n C dL_law_408 rfl rfl ?_
          have hTM2 := hTM.fr f221 (by decide) (by decide) (by simp) (by decide)
          refine m_callV (n := 0) (ci := 11) (st := []) C (c_X12_towerT l G τ219 T N  i220 hTM2) (by decide) (by decide) rfl rfl rfl q4_227 q4_224 q4_225 q4_226 q1_7 (by decide +kernel) rfl (by decide) ⟨by show ((250 + 8 * y3.toInt.toNat) + 8) + 0 ≤ 600000; omega, by show ((5300 + 24 * y3.toInt.toNat) + 24) + 0 ≤ 7302250; omega⟩ rfl (Nat.le_of_ble_eq_true rfl) dL_law_409 ?_
          rintro _ τ227 ⟨x230, rfl, i228, f229, b231, h233⟩
          have g234 := RT.towerB rτ tτ f221 f229 z226 h233
          clear h233 z226
          have r235 : Rel τ227 := g234.1
          have r236 : RT τ227 := g234.2.1
          have q237 := g234.2.2
          show MW p l e _ s m _ below meth c _ 4 G ((250 + 8 * y3.toInt.toNat) + 8) ((5300 + 24 * y3.toInt.toNat) + 24) 412 [some (.ref b), some (.ref (G.1 0 0)), some (.ref (G.1 22 0)), some (.int y3)] [.int x230] τ227
          refine m_pop C dL_law_412 rfl ?_
          refine m_goto (tgt := 1028) C dL_law_413 (by decide) ?_
          obtain ⟨x238, ex238⟩ : ∃ y : Int32, y = y3 + 6 := ⟨_, rfl⟩
          have tx238 : x238.toInt = y3.toInt + 6 := by rw [ex238, ti_addv b8 kc_6 (by decide), kt_6]
          have b239 : IV x238 6 3072 := by rw [ex238]; exact iv_add b8 kc_6 (by decide)
          refine m_iinc (v := x238) (L1 := [some (.ref b), some (.ref (G.1 0 0)), some (.ref (G.1 22 0)), some (.int x238)]) C dL_law_1028 rfl (by rw [ex238]; rfl) (by decide) rfl rfl ?_
          refine m_goto (tgt := 18) C dL_law_1031 (by decide) ?_
          refine m_widen (c2 := 250 + 8 * x238.toInt.toNat) (s2 := 5300 + 24 * x238.toInt.toNat) (by omega) (by omega) ?_
          exact ih18 τ227 x238 i228 r235 r236 (iv_wk b239 (by decide)) (by have q := hm18; omega)
        by_cases s240 : x11.toInt = 6
        · refine m_tableIn (tgt := 416) (off := 383) C dL_law_33 (by omega) (by omega) (by rw [s240]; rfl) (by decide) ?_
          have b241 : IV x11 6 6 := ⟨by omega, by omega⟩
          refine m_aload_n C dL_law_416 rfl rfl ?_
          refine m_callV (n := 0) (ci := 10) (st := []) C (c_X11_faultT l G τ  iτ ) (by decide) (by decide) rfl rfl rfl q3_13 q3_10 q3_11 q3_12 q1_1 (by decide +kernel) rfl (by decide) ⟨by show (250 + 8 * y3.toInt.toNat) + 0 ≤ 600000; omega, by show (5300 + 24 * y3.toInt.toNat) + 0 ≤ 7302250; omega⟩ rfl (Nat.le_of_ble_eq_true rfl) dL_law_417 ?_
          rintro _ τ242 ⟨x245, rfl, i243, f244, b246, h248⟩
          have z249 := Hid.mk h248
          clear h248
          have r250 : Rel τ242 := rτ.call f244 (by decide) (by decide)
          have r251 : RT τ242 := tτ.call f244 (by decide) (by decide)
          show MW p l e _ s m _ below meth c _ 4 G (250 + 8 * y3.toInt.toNat) (5300 + 24 * y3.toInt.toNat) 420 [some (.ref b), some (.ref (G.1 0 0)), some (.ref (G.1 22 0)), some (.int y3)] [.int x245] τ242
          refine m_aload_n C dL_law_420 rfl rfl ?_
          refine m_callV (n := 0) (ci := 11) (st := [.int x245]) C (c_X12_faultT l G τ242  i243 ) (by decide) (by decide) rfl rfl rfl q5_42 q5_39 q5_40 q5_41 q1_7 (by decide +kernel) rfl (by decide) ⟨by show (250 + 8 * y3.toInt.toNat) + 0 ≤ 600000; omega, by show (5300 + 24 * y3.toInt.toNat) + 0 ≤ 7302250; omega⟩ rfl (Nat.le_of_ble_eq_true rfl) dL_law_421 ?_
          rintro _ τ252 ⟨x255, rfl, i253, f254, b256, h258⟩
          have g259 := RT.faultB tτ f244 z249 h258
          clear h258 z249
          have r260 : Rel τ252 := r250.call f254 (by decide) (by decide)
          have r261 : RT τ252 := r251.call f254 (by decide) (by decide)
          show MW p l e _ s m _ below meth c _ 4 G (250 + 8 * y3.toInt.toNat) (5300 + 24 * y3.toInt.toNat) 424 [some (.ref b), some (.ref (G.1 0 0)), some (.ref (G.1 22 0)), some (.int y3)] [.int x255, .int x245] τ252
          refine m_icmp_eq (tgt := 1028) C dL_law_424 (by decide) (fun c262 => ?_) (fun c262 => ?_)
          · have f263 : x245.toInt = x255.toInt := by
              have q : _ := c262
              simp only [ti_nle, ti_nlt, ti_le, ti_lt, ti_eq, ti_ne, Classical.not_not] at q
              omega
            obtain ⟨x264, ex264⟩ : ∃ y : Int32, y = y3 + 6 := ⟨_, rfl⟩
            have tx264 : x264.toInt = y3.toInt + 6 := by rw [ex264, ti_addv b8 kc_6 (by decide), kt_6]
            have b265 : IV x264 6 3072 := by rw [ex264]; exact iv_add b8 kc_6 (by decide)
            refine m_iinc (v := x264) (L1 := [some (.ref b), some (.ref (G.1 0 0)), some (.ref (G.1 22 0)), some (.int x264)]) C dL_law_1028 rfl (by rw [ex264]; rfl) (by decide) rfl rfl ?_
            refine m_goto (tgt := 18) C dL_law_1031 (by decide) ?_
            refine m_widen (c2 := 250 + 8 * x264.toInt.toNat) (s2 := 5300 + 24 * x264.toInt.toNat) (by omega) (by omega) ?_
            exact ih18 τ252 x264 i253 r260 r261 (iv_wk b265 (by decide)) (by have q := hm18; omega)
          · have f266 : x245.toInt ≠ x255.toInt := by
              have q : _ := c262
              simp only [ti_nle, ti_nlt, ti_le, ti_lt, ti_eq, ti_ne, Classical.not_not] at q
              omega
            exfalso
            omega
        by_cases s267 : x11.toInt = 7
        · refine m_tableIn (tgt := 429) (off := 396) C dL_law_33 (by omega) (by omega) (by rw [s267]; rfl) (by decide) ?_
          have b268 : IV x11 7 7 := ⟨by omega, by omega⟩
          refine m_aload_n C dL_law_429 rfl rfl ?_
          refine m_aload_n C dL_law_430 rfl rfl ?_
          refine m_iload_n C dL_law_431 rfl rfl ?_
          refine m_iconst (v := 1) C dL_law_432 (by decide) ?_
          refine m_iadd C dL_law_433 ?_
          refine m_topi (fun x269 ex269 => ?_)
          have tx269 : x269.toInt = y3.toInt + 1 := by rw [ex269, ti_addv b8 kc_1 (by decide), kt_1]
          have b270 : IV x269 1 3067 := by rw [ex269]; exact iv_add b8 kc_1 (by decide)
          refine m_sld C hX hbl hbA ⟨by omega, by omega⟩ dL_law_434 ?_
          refine m_topi (fun x271 ex271 => ?_)
          refine m_aload_n C dL_law_435 rfl rfl ?_
          refine m_iload_n C dL_law_436 rfl rfl ?_
          refine m_iconst (v := 2) C dL_law_437 (by decide) ?_
          refine m_iadd C dL_law_438 ?_
          refine m_topi (fun x272 ex272 => ?_)
          have tx272 : x272.toInt = y3.toInt + 2 := by rw [ex272, ti_addv b8 kc_2 (by decide), kt_2]
          have b273 : IV x272 2 3068 := by rw [ex272]; exact iv_add b8 kc_2 (by decide)
          refine m_sld C hX hbl hbA ⟨by omega, by omega⟩ dL_law_439 ?_
          refine m_topi (fun x274 ex274 => ?_)
          refine m_callV (n := 2) (ci := 10) (st := []) C (c_X11_go l G τ (x271) (x274) iτ ) (by decide) (by decide) rfl rfl rfl q3_17 q3_14 q3_15 q3_16 q1_1 (by decide +kernel) rfl (by decide) ⟨by show (250 + 8 * y3.toInt.toNat) + 0 ≤ 600000; omega, by show (5300 + 24 * y3.toInt.toNat) + 0 ≤ 7302250; omega⟩ rfl (Nat.le_of_ble_eq_true rfl) dL_law_440 ?_
          rintro _ τ275 ⟨x278, rfl, i276, f277, b279⟩
          have r282 : Rel τ275 := rτ.call f277 (by decide) (by decide)
          have r283 : RT τ275 := tτ.call f277 (by decide) (by decide)
          show MW p l e _ s m _ below meth c _ 4 G (250 + 8 * y3.toInt.toNat) (5300 + 24 * y3.toInt.toNat) 443 [some (.ref b), some (.ref (G.1 0 0)), some (.ref (G.1 22 0)), some (.int y3)] [.int x278] τ275
          refine m_pop C dL_law_443 rfl ?_
          refine m_aload_n C dL_law_444 rfl rfl ?_
          refine m_aload_n C dL_law_445 rfl rfl ?_
          refine m_iload_n C dL_law_446 rfl rfl ?_
          refine m_iconst (v := 1) C dL_law_447 (by decide) ?_
          refine m_iadd C dL_law_448 ?_
          refine m_topi (fun x284 ex284 => ?_)
          have tx284 : x284.toInt = y3.toInt + 1 := by rw [ex284, ti_addv b8 kc_1 (by decide), kt_1]
          have b285 : IV x284 1 3067 := by rw [ex284]; exact iv_add b8 kc_1 (by decide)
          refine m_sld C hX hbl hbA ⟨by omega, by omega⟩ dL_law_449 ?_
          refine m_eqs (w := x271) (by rw [ex271, show x284.toInt.toNat = x269.toInt.toNat by omega]) ?_
          refine m_aload_n C dL_law_450 rfl rfl ?_
          refine m_iload_n C dL_law_451 rfl rfl ?_
          refine m_iconst (v := 2) C dL_law_452 (by decide) ?_
          refine m_iadd C dL_law_453 ?_
          refine m_topi (fun x286 ex286 => ?_)
          have tx286 : x286.toInt = y3.toInt + 2 := by rw [ex286, ti_addv b8 kc_2 (by decide), kt_2]
          have b287 : IV x286 2 3068 := by rw [ex286]; exact iv_add b8 kc_2 (by decide)
          refine m_sld C hX hbl hbA ⟨by omega, by omega⟩ dL_law_454 ?_
          refine m_eqs (w := x274) (by rw [ex274, show x286.toInt.toNat = x272.toInt.toNat by omega]) ?_
          refine m_callV (n := 2) (ci := 11) (st := []) C (c_X12_go l G τ275 (x271) (x274) i276 ) (by decide) (by decide) rfl rfl rfl q5_46 q5_43 q5_44 q5_45 q1_7 (by decide +kernel) rfl (by decide) ⟨by show (250 + 8 * y3.toInt.toNat) + 0 ≤ 600000; omega, by show (5300 + 24 * y3.toInt.toNat) + 0 ≤ 7302250; omega⟩ rfl (Nat.le_of_ble_eq_true rfl) dL_law_455 ?_
          rintro _ τ288 ⟨x291, rfl, i289, f290, b292⟩
          have r295 : Rel τ288 := r282.call f290 (by decide) (by decide)
          have r296 : RT τ288 := r283.call f290 (by decide) (by decide)
          show MW p l e _ s m _ below meth c _ 4 G (250 + 8 * y3.toInt.toNat) (5300 + 24 * y3.toInt.toNat) 458 [some (.ref b), some (.ref (G.1 0 0)), some (.ref (G.1 22 0)), some (.int y3)] [.int x291] τ288
          refine m_pop C dL_law_458 rfl ?_
          refine m_goto (tgt := 1028) C dL_law_459 (by decide) ?_
          obtain ⟨x297, ex297⟩ : ∃ y : Int32, y = y3 + 6 := ⟨_, rfl⟩
          have tx297 : x297.toInt = y3.toInt + 6 := by rw [ex297, ti_addv b8 kc_6 (by decide), kt_6]
          have b298 : IV x297 6 3072 := by rw [ex297]; exact iv_add b8 kc_6 (by decide)
          refine m_iinc (v := x297) (L1 := [some (.ref b), some (.ref (G.1 0 0)), some (.ref (G.1 22 0)), some (.int x297)]) C dL_law_1028 rfl (by rw [ex297]; rfl) (by decide) rfl rfl ?_
          refine m_goto (tgt := 18) C dL_law_1031 (by decide) ?_
          refine m_widen (c2 := 250 + 8 * x297.toInt.toNat) (s2 := 5300 + 24 * x297.toInt.toNat) (by omega) (by omega) ?_
          exact ih18 τ288 x297 i289 r295 r296 (iv_wk b298 (by decide)) (by have q := hm18; omega)
        by_cases s299 : x11.toInt = 8
        · refine m_tableIn (tgt := 462) (off := 429) C dL_law_33 (by omega) (by omega) (by rw [s299]; rfl) (by decide) ?_
          have b300 : IV x11 8 8 := ⟨by omega, by omega⟩
          refine m_aload_n C dL_law_462 rfl rfl ?_
          refine m_aload_n C dL_law_463 rfl rfl ?_
          refine m_iload_n C dL_law_464 rfl rfl ?_
          refine m_iconst (v := 1) C dL_law_465 (by decide) ?_
          refine m_iadd C dL_law_466 ?_
          refine m_topi (fun x301 ex301 => ?_)
          have tx301 : x301.toInt = y3.toInt + 1 := by rw [ex301, ti_addv b8 kc_1 (by decide), kt_1]
          have b302 : IV x301 1 3067 := by rw [ex301]; exact iv_add b8 kc_1 (by decide)
          refine m_sld C hX hbl hbA ⟨by omega, by omega⟩ dL_law_467 ?_
          refine m_topi (fun x303 ex303 => ?_)
          refine m_aload_n C dL_law_468 rfl rfl ?_
          refine m_iload_n C dL_law_469 rfl rfl ?_
          refine m_iconst (v := 2) C dL_law_470 (by decide) ?_
          refine m_iadd C dL_law_471 ?_
          refine m_topi (fun x304 ex304 => ?_)
          have tx304 : x304.toInt = y3.toInt + 2 := by rw [ex304, ti_addv b8 kc_2 (by decide), kt_2]
          have b305 : IV x304 2 3068 := by rw [ex304]; exact iv_add b8 kc_2 (by decide)
          refine m_sld C hX hbl hbA ⟨by omega, by omega⟩ dL_law_472 ?_
          refine m_topi (fun x306 ex306 => ?_)
          refine m_callV (n := 2) (ci := 10) (st := []) C (c_X11_hang l G τ (x303) (x306) iτ ) (by decide) (by decide) rfl rfl rfl q3_29 q3_26 q3_27 q3_28 q1_1 (by decide +kernel) rfl (by decide) ⟨by show (250 + 8 * y3.toInt.toNat) + 0 ≤ 600000; omega, by show (5300 + 24 * y3.toInt.toNat) + 0 ≤ 7302250; omega⟩ rfl (Nat.le_of_ble_eq_true rfl) dL_law_473 ?_
          rintro _ τ307 ⟨x310, rfl, i308, f309, b311⟩
          have r314 : Rel τ307 := rτ.call f309 (by decide) (by decide)
          have r315 : RT τ307 := tτ.call f309 (by decide) (by decide)
          show MW p l e _ s m _ below meth c _ 4 G (250 + 8 * y3.toInt.toNat) (5300 + 24 * y3.toInt.toNat) 476 [some (.ref b), some (.ref (G.1 0 0)), some (.ref (G.1 22 0)), some (.int y3)] [.int x310] τ307
          refine m_pop C dL_law_476 rfl ?_
          refine m_aload_n C dL_law_477 rfl rfl ?_
          refine m_aload_n C dL_law_478 rfl rfl ?_
          refine m_iload_n C dL_law_479 rfl rfl ?_
          refine m_iconst (v := 1) C dL_law_480 (by decide) ?_
          refine m_iadd C dL_law_481 ?_
          refine m_topi (fun x316 ex316 => ?_)
          have tx316 : x316.toInt = y3.toInt + 1 := by rw [ex316, ti_addv b8 kc_1 (by decide), kt_1]
          have b317 : IV x316 1 3067 := by rw [ex316]; exact iv_add b8 kc_1 (by decide)
          refine m_sld C hX hbl hbA ⟨by omega, by omega⟩ dL_law_482 ?_
          refine m_eqs (w := x303) (by rw [ex303, show x316.toInt.toNat = x301.toInt.toNat by omega]) ?_
          refine m_aload_n C dL_law_483 rfl rfl ?_
          refine m_iload_n C dL_law_484 rfl rfl ?_
          refine m_iconst (v := 2) C dL_law_485 (by decide) ?_
          refine m_iadd C dL_law_486 ?_
          refine m_topi (fun x318 ex318 => ?_)
          have tx318 : x318.toInt = y3.toInt + 2 := by rw [ex318, ti_addv b8 kc_2 (by decide), kt_2]
          have b319 : IV x318 2 3068 := by rw [ex318]; exact iv_add b8 kc_2 (by decide)
          refine m_sld C hX hbl hbA ⟨by omega, by omega⟩ dL_law_487 ?_
          refine m_eqs (w := x306) (by rw [ex306, show x318.toInt.toNat = x304.toInt.toNat by omega]) ?_
          refine m_callV (n := 2) (ci := 11) (st := []) C (c_X12_hang l G τ307 (x303) (x306) i308 ) (by decide) (by decide) rfl rfl rfl q5_58 q5_55 q5_56 q5_57 q1_7 (by decide +kernel) rfl (by decide) ⟨by show (250 + 8 * y3.toInt.toNat) + 0 ≤ 600000; omega, by show (5300 + 24 * y3.toInt.toNat) + 0 ≤ 7302250; omega⟩ rfl (Nat.le_of_ble_eq_true rfl) dL_law_488 ?_
          rintro _ τ320 ⟨x323, rfl, i321, f322, b324⟩
          have r327 : Rel τ320 := r314.call f322 (by decide) (by decide)
          have r328 : RT τ320 := r315.call f322 (by decide) (by decide)
          show MW p l e _ s m _ below meth c _ 4 G (250 + 8 * y3.toInt.toNat) (5300 + 24 * y3.toInt.toNat) 491 [some (.ref b), some (.ref (G.1 0 0)), some (.ref (G.1 22 0)), some (.int y3)] [.int x323] τ320
          refine m_pop C dL_law_491 rfl ?_
          refine m_goto (tgt := 1028) C dL_law_492 (by decide) ?_
          obtain ⟨x329, ex329⟩ : ∃ y : Int32, y = y3 + 6 := ⟨_, rfl⟩
          have tx329 : x329.toInt = y3.toInt + 6 := by rw [ex329, ti_addv b8 kc_6 (by decide), kt_6]
          have b330 : IV x329 6 3072 := by rw [ex329]; exact iv_add b8 kc_6 (by decide)
          refine m_iinc (v := x329) (L1 := [some (.ref b), some (.ref (G.1 0 0)), some (.ref (G.1 22 0)), some (.int x329)]) C dL_law_1028 rfl (by rw [ex329]; rfl) (by decide) rfl rfl ?_
          refine m_goto (tgt := 18) C dL_law_1031 (by decide) ?_
          refine m_widen (c2 := 250 + 8 * x329.toInt.toNat) (s2 := 5300 + 24 * x329.toInt.toNat) (by omega) (by omega) ?_
          exact ih18 τ320 x329 i321 r327 r328 (iv_wk b330 (by decide)) (by have q := hm18; omega)
        by_cases s331 : x11.toInt = 9
        · refine m_tableIn (tgt := 495) (off := 462) C dL_law_33 (by omega) (by omega) (by rw [s331]; rfl) (by decide) ?_
          have b332 : IV x11 9 9 := ⟨by omega, by omega⟩
          refine m_aload_n C dL_law_495 rfl rfl ?_
          refine m_aload_n C dL_law_496 rfl rfl ?_
          refine m_iload_n C dL_law_497 rfl rfl ?_
          refine m_iconst (v := 1) C dL_law_498 (by decide) ?_
          refine m_iadd C dL_law_499 ?_
          refine m_topi (fun x333 ex333 => ?_)
          have tx333 : x333.toInt = y3.toInt + 1 := by rw [ex333, ti_addv b8 kc_1 (by decide), kt_1]
          have b334 : IV x333 1 3067 := by rw [ex333]; exact iv_add b8 kc_1 (by decide)
          refine m_sld C hX hbl hbA ⟨by omega, by omega⟩ dL_law_500 ?_
          refine m_topi (fun x335 ex335 => ?_)
          refine m_callV (n := 1) (ci := 10) (st := []) C (c_X11_halves l G τ (x335) iτ ) (by decide) (by decide) rfl rfl rfl q3_37 q3_34 q3_35 q3_36 q1_1 (by decide +kernel) rfl (by decide) ⟨by show (250 + 8 * y3.toInt.toNat) + 0 ≤ 600000; omega, by show (5300 + 24 * y3.toInt.toNat) + 0 ≤ 7302250; omega⟩ rfl (Nat.le_of_ble_eq_true rfl) dL_law_501 ?_
          rintro _ τ336 ⟨x339, rfl, i337, f338, b340⟩
          have r343 : Rel τ336 := rτ.call f338 (by decide) (by decide)
          have r344 : RT τ336 := tτ.call f338 (by decide) (by decide)
          show MW p l e _ s m _ below meth c _ 4 G (250 + 8 * y3.toInt.toNat) (5300 + 24 * y3.toInt.toNat) 504 [some (.ref b), some (.ref (G.1 0 0)), some (.ref (G.1 22 0)), some (.int y3)] [.int x339] τ336
          refine m_pop C dL_law_504 rfl ?_
          refine m_aload_n C dL_law_505 rfl rfl ?_
          refine m_aload_n C dL_law_506 rfl rfl ?_
          refine m_iload_n C dL_law_507 rfl rfl ?_
          refine m_iconst (v := 1) C dL_law_508 (by decide) ?_
          refine m_iadd C dL_law_509 ?_
          refine m_topi (fun x345 ex345 => ?_)
          have tx345 : x345.toInt = y3.toInt + 1 := by rw [ex345, ti_addv b8 kc_1 (by decide), kt_1]
          have b346 : IV x345 1 3067 := by rw [ex345]; exact iv_add b8 kc_1 (by decide)
          refine m_sld C hX hbl hbA ⟨by omega, by omega⟩ dL_law_510 ?_
          refine m_eqs (w := x335) (by rw [ex335, show x345.toInt.toNat = x333.toInt.toNat by omega]) ?_
          refine m_callV (n := 1) (ci := 11) (st := []) C (c_X12_halves l G τ336 (x335) i337 ) (by decide) (by decide) rfl rfl rfl q5_63 q5_60 q5_61 q5_62 q1_7 (by decide +kernel) rfl (by decide) ⟨by show (250 + 8 * y3.toInt.toNat) + 0 ≤ 600000; omega, by show (5300 + 24 * y3.toInt.toNat) + 0 ≤ 7302250; omega⟩ rfl (Nat.le_of_ble_eq_true rfl) dL_law_511 ?_
          rintro _ τ347 ⟨x350, rfl, i348, f349, b351⟩
          have r354 : Rel τ347 := r343.call f349 (by decide) (by decide)
          have r355 : RT τ347 := r344.call f349 (by decide) (by decide)
          show MW p l e _ s m _ below meth c _ 4 G (250 + 8 * y3.toInt.toNat) (5300 + 24 * y3.toInt.toNat) 514 [some (.ref b), some (.ref (G.1 0 0)), some (.ref (G.1 22 0)), some (.int y3)] [.int x350] τ347
          refine m_pop C dL_law_514 rfl ?_
          refine m_goto (tgt := 1028) C dL_law_515 (by decide) ?_
          obtain ⟨x356, ex356⟩ : ∃ y : Int32, y = y3 + 6 := ⟨_, rfl⟩
          have tx356 : x356.toInt = y3.toInt + 6 := by rw [ex356, ti_addv b8 kc_6 (by decide), kt_6]
          have b357 : IV x356 6 3072 := by rw [ex356]; exact iv_add b8 kc_6 (by decide)
          refine m_iinc (v := x356) (L1 := [some (.ref b), some (.ref (G.1 0 0)), some (.ref (G.1 22 0)), some (.int x356)]) C dL_law_1028 rfl (by rw [ex356]; rfl) (by decide) rfl rfl ?_
          refine m_goto (tgt := 18) C dL_law_1031 (by decide) ?_
          refine m_widen (c2 := 250 + 8 * x356.toInt.toNat) (s2 := 5300 + 24 * x356.toInt.toNat) (by omega) (by omega) ?_
          exact ih18 τ347 x356 i348 r354 r355 (iv_wk b357 (by decide)) (by have q := hm18; omega)
        by_cases s358 : x11.toInt = 10
        · refine m_tableIn (tgt := 518) (off := 485) C dL_law_33 (by omega) (by omega) (by rw [s358]; rfl) (by decide) ?_
          have b359 : IV x11 10 10 := ⟨by omega, by omega⟩
          refine m_aload_n C dL_law_518 rfl rfl ?_
          refine m_callV (n := 0) (ci := 10) (st := []) C (c_X11_year l G τ  iτ ) (by decide) (by decide) rfl rfl rfl q3_97 q3_94 q3_95 q3_96 q1_1 (by decide +kernel) rfl (by decide) ⟨by show (250 + 8 * y3.toInt.toNat) + 0 ≤ 600000; omega, by show (5300 + 24 * y3.toInt.toNat) + 0 ≤ 7302250; omega⟩ rfl (Nat.le_of_ble_eq_true rfl) dL_law_519 ?_
          rintro _ τ360 ⟨x363, rfl, i361, f362, b364⟩
          have r367 : Rel τ360 := rτ.call f362 (by decide) (by decide)
          have r368 : RT τ360 := tτ.call f362 (by decide) (by decide)
          show MW p l e _ s m _ below meth c _ 4 G (250 + 8 * y3.toInt.toNat) (5300 + 24 * y3.toInt.toNat) 522 [some (.ref b), some (.ref (G.1 0 0)), some (.ref (G.1 22 0)), some (.int y3)] [.int x363] τ360
          refine m_pop C dL_law_522 rfl ?_
          refine m_aload_n C dL_law_523 rfl rfl ?_
          refine m_callV (n := 0) (ci := 11) (st := []) C (c_X12_year l G τ360  i361 ) (by decide) (by decide) rfl rfl rfl q5_103 q5_100 q5_101 q5_102 q1_7 (by decide +kernel) rfl (by decide) ⟨by show (250 + 8 * y3.toInt.toNat) + 0 ≤ 600000; omega, by show (5300 + 24 * y3.toInt.toNat) + 0 ≤ 7302250; omega⟩ rfl (Nat.le_of_ble_eq_true rfl) dL_law_524 ?_
          rintro _ τ369 ⟨x372, rfl, i370, f371, b373⟩
          have r376 : Rel τ369 := r367.call f371 (by decide) (by decide)
          have r377 : RT τ369 := r368.call f371 (by decide) (by decide)
          show MW p l e _ s m _ below meth c _ 4 G (250 + 8 * y3.toInt.toNat) (5300 + 24 * y3.toInt.toNat) 527 [some (.ref b), some (.ref (G.1 0 0)), some (.ref (G.1 22 0)), some (.int y3)] [.int x372] τ369
          refine m_pop C dL_law_527 rfl ?_
          refine m_goto (tgt := 1028) C dL_law_528 (by decide) ?_
          obtain ⟨x378, ex378⟩ : ∃ y : Int32, y = y3 + 6 := ⟨_, rfl⟩
          have tx378 : x378.toInt = y3.toInt + 6 := by rw [ex378, ti_addv b8 kc_6 (by decide), kt_6]
          have b379 : IV x378 6 3072 := by rw [ex378]; exact iv_add b8 kc_6 (by decide)
          refine m_iinc (v := x378) (L1 := [some (.ref b), some (.ref (G.1 0 0)), some (.ref (G.1 22 0)), some (.int x378)]) C dL_law_1028 rfl (by rw [ex378]; rfl) (by decide) rfl rfl ?_
          refine m_goto (tgt := 18) C dL_law_1031 (by decide) ?_
          refine m_widen (c2 := 250 + 8 * x378.toInt.toNat) (s2 := 5300 + 24 * x378.toInt.toNat) (by omega) (by omega) ?_
          exact ih18 τ369 x378 i370 r376 r377 (iv_wk b379 (by decide)) (by have q := hm18; omega)
        by_cases s380 : x11.toInt = 11
        · refine m_tableIn (tgt := 531) (off := 498) C dL_law_33 (by omega) (by omega) (by rw [s380]; rfl) (by decide) ?_
          have b381 : IV x11 11 11 := ⟨by omega, by omega⟩
          refine m_aload_n C dL_law_531 rfl rfl ?_
          refine m_callV (n := 0) (ci := 10) (st := []) C (c_X11_undo l G τ  iτ ) (by decide) (by decide) rfl rfl rfl q3_106 q3_103 q3_104 q3_105 q1_1 (by decide +kernel) rfl (by decide) ⟨by show (250 + 8 * y3.toInt.toNat) + 0 ≤ 600000; omega, by show (5300 + 24 * y3.toInt.toNat) + 0 ≤ 7302250; omega⟩ rfl (Nat.le_of_ble_eq_true rfl) dL_law_532 ?_
          rintro _ τ382 ⟨x385, rfl, i383, f384, b386⟩
          have r389 : Rel τ382 := rτ.call f384 (by decide) (by decide)
          have r390 : RT τ382 := tτ.call f384 (by decide) (by decide)
          show MW p l e _ s m _ below meth c _ 4 G (250 + 8 * y3.toInt.toNat) (5300 + 24 * y3.toInt.toNat) 535 [some (.ref b), some (.ref (G.1 0 0)), some (.ref (G.1 22 0)), some (.int y3)] [.int x385] τ382
          refine m_pop C dL_law_535 rfl ?_
          refine m_aload_n C dL_law_536 rfl rfl ?_
          refine m_callV (n := 0) (ci := 11) (st := []) C (c_X12_undo l G τ382  i383 ) (by decide) (by decide) rfl rfl rfl q5_111 q5_108 q5_109 q5_110 q1_7 (by decide +kernel) rfl (by decide) ⟨by show (250 + 8 * y3.toInt.toNat) + 0 ≤ 600000; omega, by show (5300 + 24 * y3.toInt.toNat) + 0 ≤ 7302250; omega⟩ rfl (Nat.le_of_ble_eq_true rfl) dL_law_537 ?_
          rintro _ τ391 ⟨x394, rfl, i392, f393, b395⟩
          have r398 : Rel τ391 := r389.call f393 (by decide) (by decide)
          have r399 : RT τ391 := r390.call f393 (by decide) (by decide)
          show MW p l e _ s m _ below meth c _ 4 G (250 + 8 * y3.toInt.toNat) (5300 + 24 * y3.toInt.toNat) 540 [some (.ref b), some (.ref (G.1 0 0)), some (.ref (G.1 22 0)), some (.int y3)] [.int x394] τ391
          refine m_pop C dL_law_540 rfl ?_
          refine m_goto (tgt := 1028) C dL_law_541 (by decide) ?_
          obtain ⟨x400, ex400⟩ : ∃ y : Int32, y = y3 + 6 := ⟨_, rfl⟩
          have tx400 : x400.toInt = y3.toInt + 6 := by rw [ex400, ti_addv b8 kc_6 (by decide), kt_6]
          have b401 : IV x400 6 3072 := by rw [ex400]; exact iv_add b8 kc_6 (by decide)
          refine m_iinc (v := x400) (L1 := [some (.ref b), some (.ref (G.1 0 0)), some (.ref (G.1 22 0)), some (.int x400)]) C dL_law_1028 rfl (by rw [ex400]; rfl) (by decide) rfl rfl ?_
          refine m_goto (tgt := 18) C dL_law_1031 (by decide) ?_
          refine m_widen (c2 := 250 + 8 * x400.toInt.toNat) (s2 := 5300 + 24 * x400.toInt.toNat) (by omega) (by omega) ?_
          exact ih18 τ391 x400 i392 r398 r399 (iv_wk b401 (by decide)) (by have q := hm18; omega)
        by_cases s402 : x11.toInt = 12
        · refine m_tableIn (tgt := 544) (off := 511) C dL_law_33 (by omega) (by omega) (by rw [s402]; rfl) (by decide) ?_
          have b403 : IV x11 12 12 := ⟨by omega, by omega⟩
          refine m_aload_n C dL_law_544 rfl rfl ?_
          refine m_aload_n C dL_law_545 rfl rfl ?_
          refine m_iload_n C dL_law_546 rfl rfl ?_
          refine m_iconst (v := 1) C dL_law_547 (by decide) ?_
          refine m_iadd C dL_law_548 ?_
          refine m_topi (fun x404 ex404 => ?_)
          have tx404 : x404.toInt = y3.toInt + 1 := by rw [ex404, ti_addv b8 kc_1 (by decide), kt_1]
          have b405 : IV x404 1 3067 := by rw [ex404]; exact iv_add b8 kc_1 (by decide)
          refine m_sld C hX hbl hbA ⟨by omega, by omega⟩ dL_law_549 ?_
          refine m_topi (fun x406 ex406 => ?_)
          refine m_aload_n C dL_law_550 rfl rfl ?_
          refine m_iload_n C dL_law_551 rfl rfl ?_
          refine m_iconst (v := 2) C dL_law_552 (by decide) ?_
          refine m_iadd C dL_law_553 ?_
          refine m_topi (fun x407 ex407 => ?_)
          have tx407 : x407.toInt = y3.toInt + 2 := by rw [ex407, ti_addv b8 kc_2 (by decide), kt_2]
          have b408 : IV x407 2 3068 := by rw [ex407]; exact iv_add b8 kc_2 (by decide)
          refine m_sld C hX hbl hbA ⟨by omega, by omega⟩ dL_law_554 ?_
          refine m_topi (fun x409 ex409 => ?_)
          refine m_callV (n := 2) (ci := 10) (st := []) C (c_X11_person l G τ (x406) (x409) iτ ) (by decide) (by decide) rfl rfl rfl q3_110 q3_107 q3_108 q3_109 q1_1 (by decide +kernel) rfl (by decide) ⟨by show (250 + 8 * y3.toInt.toNat) + 0 ≤ 600000; omega, by show (5300 + 24 * y3.toInt.toNat) + 0 ≤ 7302250; omega⟩ rfl (Nat.le_of_ble_eq_true rfl) dL_law_555 ?_
          rintro _ τ410 ⟨x413, rfl, i411, f412, b414⟩
          have r417 : Rel τ410 := rτ.call f412 (by decide) (by decide)
          have r418 : RT τ410 := tτ.call f412 (by decide) (by decide)
          show MW p l e _ s m _ below meth c _ 4 G (250 + 8 * y3.toInt.toNat) (5300 + 24 * y3.toInt.toNat) 558 [some (.ref b), some (.ref (G.1 0 0)), some (.ref (G.1 22 0)), some (.int y3)] [.int x413] τ410
          refine m_pop C dL_law_558 rfl ?_
          refine m_aload_n C dL_law_559 rfl rfl ?_
          refine m_aload_n C dL_law_560 rfl rfl ?_
          refine m_iload_n C dL_law_561 rfl rfl ?_
          refine m_iconst (v := 1) C dL_law_562 (by decide) ?_
          refine m_iadd C dL_law_563 ?_
          refine m_topi (fun x419 ex419 => ?_)
          have tx419 : x419.toInt = y3.toInt + 1 := by rw [ex419, ti_addv b8 kc_1 (by decide), kt_1]
          have b420 : IV x419 1 3067 := by rw [ex419]; exact iv_add b8 kc_1 (by decide)
          refine m_sld C hX hbl hbA ⟨by omega, by omega⟩ dL_law_564 ?_
          refine m_eqs (w := x406) (by rw [ex406, show x419.toInt.toNat = x404.toInt.toNat by omega]) ?_
          refine m_aload_n C dL_law_565 rfl rfl ?_
          refine m_iload_n C dL_law_566 rfl rfl ?_
          refine m_iconst (v := 2) C dL_law_567 (by decide) ?_
          refine m_iadd C dL_law_568 ?_
          refine m_topi (fun x421 ex421 => ?_)
          have tx421 : x421.toInt = y3.toInt + 2 := by rw [ex421, ti_addv b8 kc_2 (by decide), kt_2]
          have b422 : IV x421 2 3068 := by rw [ex421]; exact iv_add b8 kc_2 (by decide)
          refine m_sld C hX hbl hbA ⟨by omega, by omega⟩ dL_law_569 ?_
          refine m_eqs (w := x409) (by rw [ex409, show x421.toInt.toNat = x407.toInt.toNat by omega]) ?_
          refine m_callV (n := 2) (ci := 11) (st := []) C (c_X12_person l G τ410 (x406) (x409) i411 ) (by decide) (by decide) rfl rfl rfl q5_115 q5_112 q5_113 q5_114 q1_7 (by decide +kernel) rfl (by decide) ⟨by show (250 + 8 * y3.toInt.toNat) + 0 ≤ 600000; omega, by show (5300 + 24 * y3.toInt.toNat) + 0 ≤ 7302250; omega⟩ rfl (Nat.le_of_ble_eq_true rfl) dL_law_570 ?_
          rintro _ τ423 ⟨x426, rfl, i424, f425, b427⟩
          have r430 : Rel τ423 := r417.call f425 (by decide) (by decide)
          have r431 : RT τ423 := r418.call f425 (by decide) (by decide)
          show MW p l e _ s m _ below meth c _ 4 G (250 + 8 * y3.toInt.toNat) (5300 + 24 * y3.toInt.toNat) 573 [some (.ref b), some (.ref (G.1 0 0)), some (.ref (G.1 22 0)), some (.int y3)] [.int x426] τ423
          refine m_pop C dL_law_573 rfl ?_
          refine m_goto (tgt := 1028) C dL_law_574 (by decide) ?_
          obtain ⟨x432, ex432⟩ : ∃ y : Int32, y = y3 + 6 := ⟨_, rfl⟩
          have tx432 : x432.toInt = y3.toInt + 6 := by rw [ex432, ti_addv b8 kc_6 (by decide), kt_6]
          have b433 : IV x432 6 3072 := by rw [ex432]; exact iv_add b8 kc_6 (by decide)
          refine m_iinc (v := x432) (L1 := [some (.ref b), some (.ref (G.1 0 0)), some (.ref (G.1 22 0)), some (.int x432)]) C dL_law_1028 rfl (by rw [ex432]; rfl) (by decide) rfl rfl ?_
          refine m_goto (tgt := 18) C dL_law_1031 (by decide) ?_
          refine m_widen (c2 := 250 + 8 * x432.toInt.toNat) (s2 := 5300 + 24 * x432.toInt.toNat) (by omega) (by omega) ?_
          exact ih18 τ423 x432 i424 r430 r431 (iv_wk b433 (by decide)) (by have q := hm18; omega)
        by_cases s434 : x11.toInt = 13
        · refine m_tableIn (tgt := 577) (off := 544) C dL_law_33 (by omega) (by omega) (by rw [s434]; rfl) (by decide) ?_
          have b435 : IV x11 13 13 := ⟨by omega, by omega⟩
          refine m_aload_n C dL_law_577 rfl rfl ?_
          refine m_aload_n C dL_law_578 rfl rfl ?_
          refine m_iload_n C dL_law_579 rfl rfl ?_
          refine m_iconst (v := 1) C dL_law_580 (by decide) ?_
          refine m_iadd C dL_law_581 ?_
          refine m_topi (fun x436 ex436 => ?_)
          have tx436 : x436.toInt = y3.toInt + 1 := by rw [ex436, ti_addv b8 kc_1 (by decide), kt_1]
          have b437 : IV x436 1 3067 := by rw [ex436]; exact iv_add b8 kc_1 (by decide)
          refine m_sld C hX hbl hbA ⟨by omega, by omega⟩ dL_law_582 ?_
          refine m_topi (fun x438 ex438 => ?_)
          refine m_callV (n := 1) (ci := 10) (st := []) C (c_X11_lean l G τ (x438) iτ ) (by decide) (by decide) rfl rfl rfl q3_120 q3_117 q3_118 q3_119 q1_1 (by decide +kernel) rfl (by decide) ⟨by show (250 + 8 * y3.toInt.toNat) + 0 ≤ 600000; omega, by show (5300 + 24 * y3.toInt.toNat) + 0 ≤ 7302250; omega⟩ rfl (Nat.le_of_ble_eq_true rfl) dL_law_583 ?_
          rintro _ τ439 ⟨x442, rfl, i440, f441, b443⟩
          have r446 : Rel τ439 := rτ.call f441 (by decide) (by decide)
          have r447 : RT τ439 := tτ.call f441 (by decide) (by decide)
          show MW p l e _ s m _ below meth c _ 4 G (250 + 8 * y3.toInt.toNat) (5300 + 24 * y3.toInt.toNat) 586 [some (.ref b), some (.ref (G.1 0 0)), some (.ref (G.1 22 0)), some (.int y3)] [.int x442] τ439
          refine m_pop C dL_law_586 rfl ?_
          refine m_aload_n C dL_law_587 rfl rfl ?_
          refine m_aload_n C dL_law_588 rfl rfl ?_
          refine m_iload_n C dL_law_589 rfl rfl ?_
          refine m_iconst (v := 1) C dL_law_590 (by decide) ?_
          refine m_iadd C dL_law_591 ?_
          refine m_topi (fun x448 ex448 => ?_)
          have tx448 : x448.toInt = y3.toInt + 1 := by rw [ex448, ti_addv b8 kc_1 (by decide), kt_1]
          have b449 : IV x448 1 3067 := by rw [ex448]; exact iv_add b8 kc_1 (by decide)
          refine m_sld C hX hbl hbA ⟨by omega, by omega⟩ dL_law_592 ?_
          refine m_eqs (w := x438) (by rw [ex438, show x448.toInt.toNat = x436.toInt.toNat by omega]) ?_
          refine m_callV (n := 1) (ci := 11) (st := []) C (c_X12_lean l G τ439 (x438) i440 ) (by decide) (by decide) rfl rfl rfl q5_120 q5_117 q5_118 q5_119 q1_7 (by decide +kernel) rfl (by decide) ⟨by show (250 + 8 * y3.toInt.toNat) + 0 ≤ 600000; omega, by show (5300 + 24 * y3.toInt.toNat) + 0 ≤ 7302250; omega⟩ rfl (Nat.le_of_ble_eq_true rfl) dL_law_593 ?_
          rintro _ τ450 ⟨x453, rfl, i451, f452, b454⟩
          have r457 : Rel τ450 := r446.call f452 (by decide) (by decide)
          have r458 : RT τ450 := r447.call f452 (by decide) (by decide)
          show MW p l e _ s m _ below meth c _ 4 G (250 + 8 * y3.toInt.toNat) (5300 + 24 * y3.toInt.toNat) 596 [some (.ref b), some (.ref (G.1 0 0)), some (.ref (G.1 22 0)), some (.int y3)] [.int x453] τ450
          refine m_pop C dL_law_596 rfl ?_
          refine m_goto (tgt := 1028) C dL_law_597 (by decide) ?_
          obtain ⟨x459, ex459⟩ : ∃ y : Int32, y = y3 + 6 := ⟨_, rfl⟩
          have tx459 : x459.toInt = y3.toInt + 6 := by rw [ex459, ti_addv b8 kc_6 (by decide), kt_6]
          have b460 : IV x459 6 3072 := by rw [ex459]; exact iv_add b8 kc_6 (by decide)
          refine m_iinc (v := x459) (L1 := [some (.ref b), some (.ref (G.1 0 0)), some (.ref (G.1 22 0)), some (.int x459)]) C dL_law_1028 rfl (by rw [ex459]; rfl) (by decide) rfl rfl ?_
          refine m_goto (tgt := 18) C dL_law_1031 (by decide) ?_
          refine m_widen (c2 := 250 + 8 * x459.toInt.toNat) (s2 := 5300 + 24 * x459.toInt.toNat) (by omega) (by omega) ?_
          exact ih18 τ450 x459 i451 r457 r458 (iv_wk b460 (by decide)) (by have q := hm18; omega)
        by_cases s461 : x11.toInt = 14
        · refine m_tableIn (tgt := 600) (off := 567) C dL_law_33 (by omega) (by omega) (by rw [s461]; rfl) (by decide) ?_
          have b462 : IV x11 14 14 := ⟨by omega, by omega⟩
          refine m_aload_n C dL_law_600 rfl rfl ?_
          refine m_aload_n C dL_law_601 rfl rfl ?_
          refine m_iload_n C dL_law_602 rfl rfl ?_
          refine m_iconst (v := 1) C dL_law_603 (by decide) ?_
          refine m_iadd C dL_law_604 ?_
          refine m_topi (fun x463 ex463 => ?_)
          have tx463 : x463.toInt = y3.toInt + 1 := by rw [ex463, ti_addv b8 kc_1 (by decide), kt_1]
          have b464 : IV x463 1 3067 := by rw [ex463]; exact iv_add b8 kc_1 (by decide)
          refine m_sld C hX hbl hbA ⟨by omega, by omega⟩ dL_law_605 ?_
          refine m_topi (fun x465 ex465 => ?_)
          refine m_callV (n := 1) (ci := 10) (st := []) C (c_X11_worst l G τ (x465) iτ ) (by decide) (by decide) rfl rfl rfl q3_125 q3_122 q3_123 q3_124 q1_1 (by decide +kernel) rfl (by decide) ⟨by show (250 + 8 * y3.toInt.toNat) + 0 ≤ 600000; omega, by show (5300 + 24 * y3.toInt.toNat) + 0 ≤ 7302250; omega⟩ rfl (Nat.le_of_ble_eq_true rfl) dL_law_606 ?_
          rintro _ τ466 ⟨x469, rfl, i467, f468, b470⟩
          have r473 : Rel τ466 := rτ.call f468 (by decide) (by decide)
          have r474 : RT τ466 := tτ.call f468 (by decide) (by decide)
          show MW p l e _ s m _ below meth c _ 4 G (250 + 8 * y3.toInt.toNat) (5300 + 24 * y3.toInt.toNat) 609 [some (.ref b), some (.ref (G.1 0 0)), some (.ref (G.1 22 0)), some (.int y3)] [.int x469] τ466
          refine m_pop C dL_law_609 rfl ?_
          refine m_aload_n C dL_law_610 rfl rfl ?_
          refine m_aload_n C dL_law_611 rfl rfl ?_
          refine m_iload_n C dL_law_612 rfl rfl ?_
          refine m_iconst (v := 1) C dL_law_613 (by decide) ?_
          refine m_iadd C dL_law_614 ?_
          refine m_topi (fun x475 ex475 => ?_)
          have tx475 : x475.toInt = y3.toInt + 1 := by rw [ex475, ti_addv b8 kc_1 (by decide), kt_1]
          have b476 : IV x475 1 3067 := by rw [ex475]; exact iv_add b8 kc_1 (by decide)
          refine m_sld C hX hbl hbA ⟨by omega, by omega⟩ dL_law_615 ?_
          refine m_eqs (w := x465) (by rw [ex465, show x475.toInt.toNat = x463.toInt.toNat by omega]) ?_
          refine m_callV (n := 1) (ci := 11) (st := []) C (c_X12_worst l G τ466 (x465) i467 ) (by decide) (by decide) rfl rfl rfl q5_124 q5_121 q5_122 q5_123 q1_7 (by decide +kernel) rfl (by decide) ⟨by show (250 + 8 * y3.toInt.toNat) + 0 ≤ 600000; omega, by show (5300 + 24 * y3.toInt.toNat) + 0 ≤ 7302250; omega⟩ rfl (Nat.le_of_ble_eq_true rfl) dL_law_616 ?_
          rintro _ τ477 ⟨x480, rfl, i478, f479, b481⟩
          have r484 : Rel τ477 := r473.call f479 (by decide) (by decide)
          have r485 : RT τ477 := r474.call f479 (by decide) (by decide)
          show MW p l e _ s m _ below meth c _ 4 G (250 + 8 * y3.toInt.toNat) (5300 + 24 * y3.toInt.toNat) 619 [some (.ref b), some (.ref (G.1 0 0)), some (.ref (G.1 22 0)), some (.int y3)] [.int x480] τ477
          refine m_pop C dL_law_619 rfl ?_
          refine m_goto (tgt := 1028) C dL_law_620 (by decide) ?_
          obtain ⟨x486, ex486⟩ : ∃ y : Int32, y = y3 + 6 := ⟨_, rfl⟩
          have tx486 : x486.toInt = y3.toInt + 6 := by rw [ex486, ti_addv b8 kc_6 (by decide), kt_6]
          have b487 : IV x486 6 3072 := by rw [ex486]; exact iv_add b8 kc_6 (by decide)
          refine m_iinc (v := x486) (L1 := [some (.ref b), some (.ref (G.1 0 0)), some (.ref (G.1 22 0)), some (.int x486)]) C dL_law_1028 rfl (by rw [ex486]; rfl) (by decide) rfl rfl ?_
          refine m_goto (tgt := 18) C dL_law_1031 (by decide) ?_
          refine m_widen (c2 := 250 + 8 * x486.toInt.toNat) (s2 := 5300 + 24 * x486.toInt.toNat) (by omega) (by omega) ?_
          exact ih18 τ477 x486 i478 r484 r485 (iv_wk b487 (by decide)) (by have q := hm18; omega)
        by_cases s488 : x11.toInt = 15
        · refine m_tableIn (tgt := 623) (off := 590) C dL_law_33 (by omega) (by omega) (by rw [s488]; rfl) (by decide) ?_
          have b489 : IV x11 15 15 := ⟨by omega, by omega⟩
          refine m_aload_n C dL_law_623 rfl rfl ?_
          refine m_callV (n := 0) (ci := 10) (st := []) C (c_X11_most l G τ  iτ ) (by decide) (by decide) rfl rfl rfl q3_139 q3_136 q3_137 q3_138 q1_1 (by decide +kernel) rfl (by decide) ⟨by show (250 + 8 * y3.toInt.toNat) + 0 ≤ 600000; omega, by show (5300 + 24 * y3.toInt.toNat) + 0 ≤ 7302250; omega⟩ rfl (Nat.le_of_ble_eq_true rfl) dL_law_624 ?_
          rintro _ τ490 ⟨x493, rfl, i491, f492, b494⟩
          have r497 : Rel τ490 := rτ.call f492 (by decide) (by decide)
          have r498 : RT τ490 := tτ.call f492 (by decide) (by decide)
          show MW p l e _ s m _ below meth c _ 4 G (250 + 8 * y3.toInt.toNat) (5300 + 24 * y3.toInt.toNat) 627 [some (.ref b), some (.ref (G.1 0 0)), some (.ref (G.1 22 0)), some (.int y3)] [.int x493] τ490
          refine m_pop C dL_law_627 rfl ?_
          refine m_aload_n C dL_law_628 rfl rfl ?_
          refine m_callV (n := 0) (ci := 11) (st := []) C (c_X12_most l G τ490  i491 ) (by decide) (by decide) rfl rfl rfl q5_136 q5_133 q5_134 q5_135 q1_7 (by decide +kernel) rfl (by decide) ⟨by show (250 + 8 * y3.toInt.toNat) + 0 ≤ 600000; omega, by show (5300 + 24 * y3.toInt.toNat) + 0 ≤ 7302250; omega⟩ rfl (Nat.le_of_ble_eq_true rfl) dL_law_629 ?_
          rintro _ τ499 ⟨x502, rfl, i500, f501, b503⟩
          have r506 : Rel τ499 := r497.call f501 (by decide) (by decide)
          have r507 : RT τ499 := r498.call f501 (by decide) (by decide)
          show MW p l e _ s m _ below meth c _ 4 G (250 + 8 * y3.toInt.toNat) (5300 + 24 * y3.toInt.toNat) 632 [some (.ref b), some (.ref (G.1 0 0)), some (.ref (G.1 22 0)), some (.int y3)] [.int x502] τ499
          refine m_pop C dL_law_632 rfl ?_
          refine m_goto (tgt := 1028) C dL_law_633 (by decide) ?_
          obtain ⟨x508, ex508⟩ : ∃ y : Int32, y = y3 + 6 := ⟨_, rfl⟩
          have tx508 : x508.toInt = y3.toInt + 6 := by rw [ex508, ti_addv b8 kc_6 (by decide), kt_6]
          have b509 : IV x508 6 3072 := by rw [ex508]; exact iv_add b8 kc_6 (by decide)
          refine m_iinc (v := x508) (L1 := [some (.ref b), some (.ref (G.1 0 0)), some (.ref (G.1 22 0)), some (.int x508)]) C dL_law_1028 rfl (by rw [ex508]; rfl) (by decide) rfl rfl ?_
          refine m_goto (tgt := 18) C dL_law_1031 (by decide) ?_
          refine m_widen (c2 := 250 + 8 * x508.toInt.toNat) (s2 := 5300 + 24 * x508.toInt.toNat) (by omega) (by omega) ?_
          exact ih18 τ499 x508 i500 r506 r507 (iv_wk b509 (by decide)) (by have q := hm18; omega)
        by_cases s510 : x11.toInt = 16
        · refine m_tableIn (tgt := 636) (off := 603) C dL_law_33 (by omega) (by omega) (by rw [s510]; rfl) (by decide) ?_
          have b511 : IV x11 16 16 := ⟨by omega, by omega⟩
          refine m_aload_n C dL_law_636 rfl rfl ?_
          refine m_aload_n C dL_law_637 rfl rfl ?_
          refine m_iload_n C dL_law_638 rfl rfl ?_
          refine m_iconst (v := 1) C dL_law_639 (by decide) ?_
          refine m_iadd C dL_law_640 ?_
          refine m_topi (fun x512 ex512 => ?_)
          have tx512 : x512.toInt = y3.toInt + 1 := by rw [ex512, ti_addv b8 kc_1 (by decide), kt_1]
          have b513 : IV x512 1 3067 := by rw [ex512]; exact iv_add b8 kc_1 (by decide)
          refine m_sld C hX hbl hbA ⟨by omega, by omega⟩ dL_law_641 ?_
          refine m_topi (fun x514 ex514 => ?_)
          refine m_aload_n C dL_law_642 rfl rfl ?_
          refine m_iload_n C dL_law_643 rfl rfl ?_
          refine m_iconst (v := 2) C dL_law_644 (by decide) ?_
          refine m_iadd C dL_law_645 ?_
          refine m_topi (fun x515 ex515 => ?_)
          have tx515 : x515.toInt = y3.toInt + 2 := by rw [ex515, ti_addv b8 kc_2 (by decide), kt_2]
          have b516 : IV x515 2 3068 := by rw [ex515]; exact iv_add b8 kc_2 (by decide)
          refine m_sld C hX hbl hbA ⟨by omega, by omega⟩ dL_law_646 ?_
          refine m_topi (fun x517 ex517 => ?_)
          refine m_aload_n C dL_law_647 rfl rfl ?_
          refine m_iload_n C dL_law_648 rfl rfl ?_
          refine m_iconst (v := 3) C dL_law_649 (by decide) ?_
          refine m_iadd C dL_law_650 ?_
          refine m_topi (fun x518 ex518 => ?_)
          have tx518 : x518.toInt = y3.toInt + 3 := by rw [ex518, ti_addv b8 kc_3 (by decide), kt_3]
          have b519 : IV x518 3 3069 := by rw [ex518]; exact iv_add b8 kc_3 (by decide)
          refine m_sld C hX hbl hbA ⟨by omega, by omega⟩ dL_law_651 ?_
          refine m_topi (fun x520 ex520 => ?_)
          refine m_callV (n := 3) (ci := 10) (st := []) C (c_X11_two l G τ (x514) (x517) (x520) iτ ) (by decide) (by decide) rfl rfl rfl q3_157 q3_154 q3_155 q3_156 q1_1 (by decide +kernel) rfl (by decide) ⟨by show (250 + 8 * y3.toInt.toNat) + 0 ≤ 600000; omega, by show (5300 + 24 * y3.toInt.toNat) + 0 ≤ 7302250; omega⟩ rfl (Nat.le_of_ble_eq_true rfl) dL_law_652 ?_
          rintro _ τ521 ⟨x524, rfl, i522, f523, b525⟩
          have r528 : Rel τ521 := rτ.call f523 (by decide) (by decide)
          have r529 : RT τ521 := tτ.call f523 (by decide) (by decide)
          show MW p l e _ s m _ below meth c _ 4 G (250 + 8 * y3.toInt.toNat) (5300 + 24 * y3.toInt.toNat) 655 [some (.ref b), some (.ref (G.1 0 0)), some (.ref (G.1 22 0)), some (.int y3)] [.int x524] τ521
          refine m_pop C dL_law_655 rfl ?_
          refine m_aload_n C dL_law_656 rfl rfl ?_
          refine m_aload_n C dL_law_657 rfl rfl ?_
          refine m_iload_n C dL_law_658 rfl rfl ?_
          refine m_iconst (v := 1) C dL_law_659 (by decide) ?_
          refine m_iadd C dL_law_660 ?_
          refine m_topi (fun x530 ex530 => ?_)
          have tx530 : x530.toInt = y3.toInt + 1 := by rw [ex530, ti_addv b8 kc_1 (by decide), kt_1]
          have b531 : IV x530 1 3067 := by rw [ex530]; exact iv_add b8 kc_1 (by decide)
          refine m_sld C hX hbl hbA ⟨by omega, by omega⟩ dL_law_661 ?_
          refine m_eqs (w := x514) (by rw [ex514, show x530.toInt.toNat = x512.toInt.toNat by omega]) ?_
          refine m_aload_n C dL_law_662 rfl rfl ?_
          refine m_iload_n C dL_law_663 rfl rfl ?_
          refine m_iconst (v := 2) C dL_law_664 (by decide) ?_
          refine m_iadd C dL_law_665 ?_
          refine m_topi (fun x532 ex532 => ?_)
          have tx532 : x532.toInt = y3.toInt + 2 := by rw [ex532, ti_addv b8 kc_2 (by decide), kt_2]
          have b533 : IV x532 2 3068 := by rw [ex532]; exact iv_add b8 kc_2 (by decide)
          refine m_sld C hX hbl hbA ⟨by omega, by omega⟩ dL_law_666 ?_
          refine m_eqs (w := x517) (by rw [ex517, show x532.toInt.toNat = x515.toInt.toNat by omega]) ?_
          refine m_aload_n C dL_law_667 rfl rfl ?_
          refine m_iload_n C dL_law_668 rfl rfl ?_
          refine m_iconst (v := 3) C dL_law_669 (by decide) ?_
          refine m_iadd C dL_law_670 ?_
          refine m_topi (fun x534 ex534 => ?_)
          have tx534 : x534.toInt = y3.toInt + 3 := by rw [ex534, ti_addv b8 kc_3 (by decide), kt_3]
          have b535 : IV x534 3 3069 := by rw [ex534]; exact iv_add b8 kc_3 (by decide)
          refine m_sld C hX hbl hbA ⟨by omega, by omega⟩ dL_law_671 ?_
          refine m_eqs (w := x520) (by rw [ex520, show x534.toInt.toNat = x518.toInt.toNat by omega]) ?_
          refine m_callV (n := 3) (ci := 11) (st := []) C (c_X12_two l G τ521 (x514) (x517) (x520) i522 ) (by decide) (by decide) rfl rfl rfl q5_146 q5_143 q5_144 q5_145 q1_7 (by decide +kernel) rfl (by decide) ⟨by show (250 + 8 * y3.toInt.toNat) + 0 ≤ 600000; omega, by show (5300 + 24 * y3.toInt.toNat) + 0 ≤ 7302250; omega⟩ rfl (Nat.le_of_ble_eq_true rfl) dL_law_672 ?_
          rintro _ τ536 ⟨x539, rfl, i537, f538, b540⟩
          have r543 : Rel τ536 := r528.call f538 (by decide) (by decide)
          have r544 : RT τ536 := r529.call f538 (by decide) (by decide)
          show MW p l e _ s m _ below meth c _ 4 G (250 + 8 * y3.toInt.toNat) (5300 + 24 * y3.toInt.toNat) 675 [some (.ref b), some (.ref (G.1 0 0)), some (.ref (G.1 22 0)), some (.int y3)] [.int x539] τ536
          refine m_pop C dL_law_675 rfl ?_
          refine m_goto (tgt := 1028) C dL_law_676 (by decide) ?_
          obtain ⟨x545, ex545⟩ : ∃ y : Int32, y = y3 + 6 := ⟨_, rfl⟩
          have tx545 : x545.toInt = y3.toInt + 6 := by rw [ex545, ti_addv b8 kc_6 (by decide), kt_6]
          have b546 : IV x545 6 3072 := by rw [ex545]; exact iv_add b8 kc_6 (by decide)
          refine m_iinc (v := x545) (L1 := [some (.ref b), some (.ref (G.1 0 0)), some (.ref (G.1 22 0)), some (.int x545)]) C dL_law_1028 rfl (by rw [ex545]; rfl) (by decide) rfl rfl ?_
          refine m_goto (tgt := 18) C dL_law_1031 (by decide) ?_
          refine m_widen (c2 := 250 + 8 * x545.toInt.toNat) (s2 := 5300 + 24 * x545.toInt.toNat) (by omega) (by omega) ?_
          exact ih18 τ536 x545 i537 r543 r544 (iv_wk b546 (by decide)) (by have q := hm18; omega)
        by_cases s547 : x11.toInt = 17
        · refine m_tableIn (tgt := 679) (off := 646) C dL_law_33 (by omega) (by omega) (by rw [s547]; rfl) (by decide) ?_
          have b548 : IV x11 17 17 := ⟨by omega, by omega⟩
          refine m_aload_n C dL_law_679 rfl rfl ?_
          refine m_aload_n C dL_law_680 rfl rfl ?_
          refine m_iload_n C dL_law_681 rfl rfl ?_
          refine m_iconst (v := 1) C dL_law_682 (by decide) ?_
          refine m_iadd C dL_law_683 ?_
          refine m_topi (fun x549 ex549 => ?_)
          have tx549 : x549.toInt = y3.toInt + 1 := by rw [ex549, ti_addv b8 kc_1 (by decide), kt_1]
          have b550 : IV x549 1 3067 := by rw [ex549]; exact iv_add b8 kc_1 (by decide)
          refine m_sld C hX hbl hbA ⟨by omega, by omega⟩ dL_law_684 ?_
          refine m_topi (fun x551 ex551 => ?_)
          refine m_callV (n := 1) (ci := 10) (st := []) C (c_X11_stones l G τ (x551) iτ ) (by decide) (by decide) rfl rfl rfl q3_170 q3_167 q3_168 q3_169 q1_1 (by decide +kernel) rfl (by decide) ⟨by show (250 + 8 * y3.toInt.toNat) + 0 ≤ 600000; omega, by show (5300 + 24 * y3.toInt.toNat) + 0 ≤ 7302250; omega⟩ rfl (Nat.le_of_ble_eq_true rfl) dL_law_685 ?_
          rintro _ τ552 ⟨x555, rfl, i553, f554, b556⟩
          have r559 : Rel τ552 := rτ.call f554 (by decide) (by decide)
          have r560 : RT τ552 := tτ.call f554 (by decide) (by decide)
          show MW p l e _ s m _ below meth c _ 4 G (250 + 8 * y3.toInt.toNat) (5300 + 24 * y3.toInt.toNat) 688 [some (.ref b), some (.ref (G.1 0 0)), some (.ref (G.1 22 0)), some (.int y3)] [.int x555] τ552
          refine m_pop C dL_law_688 rfl ?_
          refine m_aload_n C dL_law_689 rfl rfl ?_
          refine m_aload_n C dL_law_690 rfl rfl ?_
          refine m_iload_n C dL_law_691 rfl rfl ?_
          refine m_iconst (v := 1) C dL_law_692 (by decide) ?_
          refine m_iadd C dL_law_693 ?_
          refine m_topi (fun x561 ex561 => ?_)
          have tx561 : x561.toInt = y3.toInt + 1 := by rw [ex561, ti_addv b8 kc_1 (by decide), kt_1]
          have b562 : IV x561 1 3067 := by rw [ex561]; exact iv_add b8 kc_1 (by decide)
          refine m_sld C hX hbl hbA ⟨by omega, by omega⟩ dL_law_694 ?_
          refine m_eqs (w := x551) (by rw [ex551, show x561.toInt.toNat = x549.toInt.toNat by omega]) ?_
          refine m_callV (n := 1) (ci := 11) (st := []) C (c_X12_stones l G τ552 (x551) i553 ) (by decide) (by decide) rfl rfl rfl q5_150 q5_147 q5_148 q5_149 q1_7 (by decide +kernel) rfl (by decide) ⟨by show (250 + 8 * y3.toInt.toNat) + 0 ≤ 600000; omega, by show (5300 + 24 * y3.toInt.toNat) + 0 ≤ 7302250; omega⟩ rfl (Nat.le_of_ble_eq_true rfl) dL_law_695 ?_
          rintro _ τ563 ⟨x566, rfl, i564, f565, b567⟩
          have r570 : Rel τ563 := r559.call f565 (by decide) (by decide)
          have r571 : RT τ563 := r560.call f565 (by decide) (by decide)
          show MW p l e _ s m _ below meth c _ 4 G (250 + 8 * y3.toInt.toNat) (5300 + 24 * y3.toInt.toNat) 698 [some (.ref b), some (.ref (G.1 0 0)), some (.ref (G.1 22 0)), some (.int y3)] [.int x566] τ563
          refine m_pop C dL_law_698 rfl ?_
          refine m_goto (tgt := 1028) C dL_law_699 (by decide) ?_
          obtain ⟨x572, ex572⟩ : ∃ y : Int32, y = y3 + 6 := ⟨_, rfl⟩
          have tx572 : x572.toInt = y3.toInt + 6 := by rw [ex572, ti_addv b8 kc_6 (by decide), kt_6]
          have b573 : IV x572 6 3072 := by rw [ex572]; exact iv_add b8 kc_6 (by decide)
          refine m_iinc (v := x572) (L1 := [some (.ref b), some (.ref (G.1 0 0)), some (.ref (G.1 22 0)), some (.int x572)]) C dL_law_1028 rfl (by rw [ex572]; rfl) (by decide) rfl rfl ?_
          refine m_goto (tgt := 18) C dL_law_1031 (by decide) ?_
          refine m_widen (c2 := 250 + 8 * x572.toInt.toNat) (s2 := 5300 + 24 * x572.toInt.toNat) (by omega) (by omega) ?_
          exact ih18 τ563 x572 i564 r570 r571 (iv_wk b573 (by decide)) (by have q := hm18; omega)
        by_cases s574 : x11.toInt = 18
        · refine m_tableIn (tgt := 702) (off := 669) C dL_law_33 (by omega) (by omega) (by rw [s574]; rfl) (by decide) ?_
          have b575 : IV x11 18 18 := ⟨by omega, by omega⟩
          refine m_aload_n C dL_law_702 rfl rfl ?_
          refine m_aload_n C dL_law_703 rfl rfl ?_
          refine m_iload_n C dL_law_704 rfl rfl ?_
          refine m_iconst (v := 1) C dL_law_705 (by decide) ?_
          refine m_iadd C dL_law_706 ?_
          refine m_topi (fun x576 ex576 => ?_)
          have tx576 : x576.toInt = y3.toInt + 1 := by rw [ex576, ti_addv b8 kc_1 (by decide), kt_1]
          have b577 : IV x576 1 3067 := by rw [ex576]; exact iv_add b8 kc_1 (by decide)
          refine m_sld C hX hbl hbA ⟨by omega, by omega⟩ dL_law_707 ?_
          refine m_topi (fun x578 ex578 => ?_)
          refine m_aload_n C dL_law_708 rfl rfl ?_
          refine m_iload_n C dL_law_709 rfl rfl ?_
          refine m_iconst (v := 2) C dL_law_710 (by decide) ?_
          refine m_iadd C dL_law_711 ?_
          refine m_topi (fun x579 ex579 => ?_)
          have tx579 : x579.toInt = y3.toInt + 2 := by rw [ex579, ti_addv b8 kc_2 (by decide), kt_2]
          have b580 : IV x579 2 3068 := by rw [ex579]; exact iv_add b8 kc_2 (by decide)
          refine m_sld C hX hbl hbA ⟨by omega, by omega⟩ dL_law_712 ?_
          refine m_topi (fun x581 ex581 => ?_)
          refine m_aload_n C dL_law_713 rfl rfl ?_
          refine m_iload_n C dL_law_714 rfl rfl ?_
          refine m_iconst (v := 3) C dL_law_715 (by decide) ?_
          refine m_iadd C dL_law_716 ?_
          refine m_topi (fun x582 ex582 => ?_)
          have tx582 : x582.toInt = y3.toInt + 3 := by rw [ex582, ti_addv b8 kc_3 (by decide), kt_3]
          have b583 : IV x582 3 3069 := by rw [ex582]; exact iv_add b8 kc_3 (by decide)
          refine m_sld C hX hbl hbA ⟨by omega, by omega⟩ dL_law_717 ?_
          refine m_topi (fun x584 ex584 => ?_)
          refine m_aload_n C dL_law_718 rfl rfl ?_
          refine m_iload_n C dL_law_719 rfl rfl ?_
          refine m_iconst (v := 4) C dL_law_720 (by decide) ?_
          refine m_iadd C dL_law_721 ?_
          refine m_topi (fun x585 ex585 => ?_)
          have tx585 : x585.toInt = y3.toInt + 4 := by rw [ex585, ti_addv b8 kc_4 (by decide), kt_4]
          have b586 : IV x585 4 3070 := by rw [ex585]; exact iv_add b8 kc_4 (by decide)
          refine m_sld C hX hbl hbA ⟨by omega, by omega⟩ dL_law_722 ?_
          refine m_topi (fun x587 ex587 => ?_)
          refine m_callV (n := 4) (ci := 10) (st := []) C (c_X11_marks l G τ (x578) (x581) (x584) (x587) iτ ) (by decide) (by decide) rfl rfl rfl q3_187 q3_184 q3_185 q3_186 q1_1 (by decide +kernel) rfl (by decide) ⟨by show (250 + 8 * y3.toInt.toNat) + 0 ≤ 600000; omega, by show (5300 + 24 * y3.toInt.toNat) + 0 ≤ 7302250; omega⟩ rfl (Nat.le_of_ble_eq_true rfl) dL_law_723 ?_
          rintro _ τ588 ⟨x591, rfl, i589, f590, b592⟩
          have r595 : Rel τ588 := rτ.call f590 (by decide) (by decide)
          have r596 : RT τ588 := tτ.call f590 (by decide) (by decide)
          show MW p l e _ s m _ below meth c _ 4 G (250 + 8 * y3.toInt.toNat) (5300 + 24 * y3.toInt.toNat) 726 [some (.ref b), some (.ref (G.1 0 0)), some (.ref (G.1 22 0)), some (.int y3)] [.int x591] τ588
          refine m_pop C dL_law_726 rfl ?_
          refine m_aload_n C dL_law_727 rfl rfl ?_
          refine m_aload_n C dL_law_728 rfl rfl ?_
          refine m_iload_n C dL_law_729 rfl rfl ?_
          refine m_iconst (v := 1) C dL_law_730 (by decide) ?_
          refine m_iadd C dL_law_731 ?_
          refine m_topi (fun x597 ex597 => ?_)
          have tx597 : x597.toInt = y3.toInt + 1 := by rw [ex597, ti_addv b8 kc_1 (by decide), kt_1]
          have b598 : IV x597 1 3067 := by rw [ex597]; exact iv_add b8 kc_1 (by decide)
          refine m_sld C hX hbl hbA ⟨by omega, by omega⟩ dL_law_732 ?_
          refine m_eqs (w := x578) (by rw [ex578, show x597.toInt.toNat = x576.toInt.toNat by omega]) ?_
          refine m_aload_n C dL_law_733 rfl rfl ?_
          refine m_iload_n C dL_law_734 rfl rfl ?_
          refine m_iconst (v := 2) C dL_law_735 (by decide) ?_
          refine m_iadd C dL_law_736 ?_
          refine m_topi (fun x599 ex599 => ?_)
          have tx599 : x599.toInt = y3.toInt + 2 := by rw [ex599, ti_addv b8 kc_2 (by decide), kt_2]
          have b600 : IV x599 2 3068 := by rw [ex599]; exact iv_add b8 kc_2 (by decide)
          refine m_sld C hX hbl hbA ⟨by omega, by omega⟩ dL_law_737 ?_
          refine m_eqs (w := x581) (by rw [ex581, show x599.toInt.toNat = x579.toInt.toNat by omega]) ?_
          refine m_aload_n C dL_law_738 rfl rfl ?_
          refine m_iload_n C dL_law_739 rfl rfl ?_
          refine m_iconst (v := 3) C dL_law_740 (by decide) ?_
          refine m_iadd C dL_law_741 ?_
          refine m_topi (fun x601 ex601 => ?_)
          have tx601 : x601.toInt = y3.toInt + 3 := by rw [ex601, ti_addv b8 kc_3 (by decide), kt_3]
          have b602 : IV x601 3 3069 := by rw [ex601]; exact iv_add b8 kc_3 (by decide)
          refine m_sld C hX hbl hbA ⟨by omega, by omega⟩ dL_law_742 ?_
          refine m_eqs (w := x584) (by rw [ex584, show x601.toInt.toNat = x582.toInt.toNat by omega]) ?_
          refine m_aload_n C dL_law_743 rfl rfl ?_
          refine m_iload_n C dL_law_744 rfl rfl ?_
          refine m_iconst (v := 4) C dL_law_745 (by decide) ?_
          refine m_iadd C dL_law_746 ?_
          refine m_topi (fun x603 ex603 => ?_)
          have tx603 : x603.toInt = y3.toInt + 4 := by rw [ex603, ti_addv b8 kc_4 (by decide), kt_4]
          have b604 : IV x603 4 3070 := by rw [ex603]; exact iv_add b8 kc_4 (by decide)
          refine m_sld C hX hbl hbA ⟨by omega, by omega⟩ dL_law_747 ?_
          refine m_eqs (w := x587) (by rw [ex587, show x603.toInt.toNat = x585.toInt.toNat by omega]) ?_
          refine m_callV (n := 4) (ci := 11) (st := []) C (c_X12_marks l G τ588 (x578) (x581) (x584) (x587) i589 ) (by decide) (by decide) rfl rfl rfl q5_154 q5_151 q5_152 q5_153 q1_7 (by decide +kernel) rfl (by decide) ⟨by show (250 + 8 * y3.toInt.toNat) + 0 ≤ 600000; omega, by show (5300 + 24 * y3.toInt.toNat) + 0 ≤ 7302250; omega⟩ rfl (Nat.le_of_ble_eq_true rfl) dL_law_748 ?_
          rintro _ τ605 ⟨x608, rfl, i606, f607, b609⟩
          have r612 : Rel τ605 := r595.call f607 (by decide) (by decide)
          have r613 : RT τ605 := r596.call f607 (by decide) (by decide)
          show MW p l e _ s m _ below meth c _ 4 G (250 + 8 * y3.toInt.toNat) (5300 + 24 * y3.toInt.toNat) 751 [some (.ref b), some (.ref (G.1 0 0)), some (.ref (G.1 22 0)), some (.int y3)] [.int x608] τ605
          refine m_pop C dL_law_751 rfl ?_
          refine m_goto (tgt := 1028) C dL_law_752 (by decide) ?_
          obtain ⟨x614, ex614⟩ : ∃ y : Int32, y = y3 + 6 := ⟨_, rfl⟩
          have tx614 : x614.toInt = y3.toInt + 6 := by rw [ex614, ti_addv b8 kc_6 (by decide), kt_6]
          have b615 : IV x614 6 3072 := by rw [ex614]; exact iv_add b8 kc_6 (by decide)
          refine m_iinc (v := x614) (L1 := [some (.ref b), some (.ref (G.1 0 0)), some (.ref (G.1 22 0)), some (.int x614)]) C dL_law_1028 rfl (by rw [ex614]; rfl) (by decide) rfl rfl ?_
          refine m_goto (tgt := 18) C dL_law_1031 (by decide) ?_
          refine m_widen (c2 := 250 + 8 * x614.toInt.toNat) (s2 := 5300 + 24 * x614.toInt.toNat) (by omega) (by omega) ?_
          exact ih18 τ605 x614 i606 r612 r613 (iv_wk b615 (by decide)) (by have q := hm18; omega)
        by_cases s616 : x11.toInt = 19
        · refine m_tableIn (tgt := 755) (off := 722) C dL_law_33 (by omega) (by omega) (by rw [s616]; rfl) (by decide) ?_
          have b617 : IV x11 19 19 := ⟨by omega, by omega⟩
          refine m_aload_n C dL_law_755 rfl rfl ?_
          refine m_aload_n C dL_law_756 rfl rfl ?_
          refine m_iload_n C dL_law_757 rfl rfl ?_
          refine m_iconst (v := 1) C dL_law_758 (by decide) ?_
          refine m_iadd C dL_law_759 ?_
          refine m_topi (fun x618 ex618 => ?_)
          have tx618 : x618.toInt = y3.toInt + 1 := by rw [ex618, ti_addv b8 kc_1 (by decide), kt_1]
          have b619 : IV x618 1 3067 := by rw [ex618]; exact iv_add b8 kc_1 (by decide)
          refine m_sld C hX hbl hbA ⟨by omega, by omega⟩ dL_law_760 ?_
          refine m_topi (fun x620 ex620 => ?_)
          refine m_callV (n := 1) (ci := 10) (st := []) C (c_X11_rescue l G τ (x620) iτ ) (by decide) (by decide) rfl rfl rfl q3_202 q3_199 q3_200 q3_201 q1_1 (by decide +kernel) rfl (by decide) ⟨by show (250 + 8 * y3.toInt.toNat) + 0 ≤ 600000; omega, by show (5300 + 24 * y3.toInt.toNat) + 0 ≤ 7302250; omega⟩ rfl (Nat.le_of_ble_eq_true rfl) dL_law_761 ?_
          rintro _ τ621 ⟨x624, rfl, i622, f623, b625⟩
          have r628 : Rel τ621 := rτ.call f623 (by decide) (by decide)
          have r629 : RT τ621 := tτ.call f623 (by decide) (by decide)
          show MW p l e _ s m _ below meth c _ 4 G (250 + 8 * y3.toInt.toNat) (5300 + 24 * y3.toInt.toNat) 764 [some (.ref b), some (.ref (G.1 0 0)), some (.ref (G.1 22 0)), some (.int y3)] [.int x624] τ621
          refine m_pop C dL_law_764 rfl ?_
          refine m_aload_n C dL_law_765 rfl rfl ?_
          refine m_aload_n C dL_law_766 rfl rfl ?_
          refine m_iload_n C dL_law_767 rfl rfl ?_
          refine m_iconst (v := 1) C dL_law_768 (by decide) ?_
          refine m_iadd C dL_law_769 ?_
          refine m_topi (fun x630 ex630 => ?_)
          have tx630 : x630.toInt = y3.toInt + 1 := by rw [ex630, ti_addv b8 kc_1 (by decide), kt_1]
          have b631 : IV x630 1 3067 := by rw [ex630]; exact iv_add b8 kc_1 (by decide)
          refine m_sld C hX hbl hbA ⟨by omega, by omega⟩ dL_law_770 ?_
          refine m_eqs (w := x620) (by rw [ex620, show x630.toInt.toNat = x618.toInt.toNat by omega]) ?_
          refine m_callV (n := 1) (ci := 11) (st := []) C (c_X12_rescue l G τ621 (x620) i622 ) (by decide) (by decide) rfl rfl rfl q5_160 q5_157 q5_158 q5_159 q1_7 (by decide +kernel) rfl (by decide) ⟨by show (250 + 8 * y3.toInt.toNat) + 0 ≤ 600000; omega, by show (5300 + 24 * y3.toInt.toNat) + 0 ≤ 7302250; omega⟩ rfl (Nat.le_of_ble_eq_true rfl) dL_law_771 ?_
          rintro _ τ632 ⟨x635, rfl, i633, f634, b636⟩
          have r639 : Rel τ632 := r628.call f634 (by decide) (by decide)
          have r640 : RT τ632 := r629.call f634 (by decide) (by decide)
          show MW p l e _ s m _ below meth c _ 4 G (250 + 8 * y3.toInt.toNat) (5300 + 24 * y3.toInt.toNat) 774 [some (.ref b), some (.ref (G.1 0 0)), some (.ref (G.1 22 0)), some (.int y3)] [.int x635] τ632
          refine m_pop C dL_law_774 rfl ?_
          refine m_goto (tgt := 1028) C dL_law_775 (by decide) ?_
          obtain ⟨x641, ex641⟩ : ∃ y : Int32, y = y3 + 6 := ⟨_, rfl⟩
          have tx641 : x641.toInt = y3.toInt + 6 := by rw [ex641, ti_addv b8 kc_6 (by decide), kt_6]
          have b642 : IV x641 6 3072 := by rw [ex641]; exact iv_add b8 kc_6 (by decide)
          refine m_iinc (v := x641) (L1 := [some (.ref b), some (.ref (G.1 0 0)), some (.ref (G.1 22 0)), some (.int x641)]) C dL_law_1028 rfl (by rw [ex641]; rfl) (by decide) rfl rfl ?_
          refine m_goto (tgt := 18) C dL_law_1031 (by decide) ?_
          refine m_widen (c2 := 250 + 8 * x641.toInt.toNat) (s2 := 5300 + 24 * x641.toInt.toNat) (by omega) (by omega) ?_
          exact ih18 τ632 x641 i633 r639 r640 (iv_wk b642 (by decide)) (by have q := hm18; omega)
        by_cases s643 : x11.toInt = 20
        · refine m_tableIn (tgt := 778) (off := 745) C dL_law_33 (by omega) (by omega) (by rw [s643]; rfl) (by decide) ?_
          have b644 : IV x11 20 20 := ⟨by omega, by omega⟩
          refine m_aload_n C dL_law_778 rfl rfl ?_
          refine m_callV (n := 0) (ci := 10) (st := []) C (c_X11_fall l G τ  iτ ) (by decide) (by decide) rfl rfl rfl q3_220 q3_217 q3_218 q3_219 q1_1 (by decide +kernel) rfl (by decide) ⟨by show (250 + 8 * y3.toInt.toNat) + 0 ≤ 600000; omega, by show (5300 + 24 * y3.toInt.toNat) + 0 ≤ 7302250; omega⟩ rfl (Nat.le_of_ble_eq_true rfl) dL_law_779 ?_
          rintro _ τ645 ⟨x648, rfl, i646, f647, b649⟩
          have r652 : Rel τ645 := rτ.call f647 (by decide) (by decide)
          have r653 : RT τ645 := tτ.call f647 (by decide) (by decide)
          show MW p l e _ s m _ below meth c _ 4 G (250 + 8 * y3.toInt.toNat) (5300 + 24 * y3.toInt.toNat) 782 [some (.ref b), some (.ref (G.1 0 0)), some (.ref (G.1 22 0)), some (.int y3)] [.int x648] τ645
          refine m_pop C dL_law_782 rfl ?_
          refine m_aload_n C dL_law_783 rfl rfl ?_
          refine m_callV (n := 0) (ci := 11) (st := []) C (c_X12_fall l G τ645  i646 ) (by decide) (by decide) rfl rfl rfl q5_168 q5_165 q5_166 q5_167 q1_7 (by decide +kernel) rfl (by decide) ⟨by show (250 + 8 * y3.toInt.toNat) + 0 ≤ 600000; omega, by show (5300 + 24 * y3.toInt.toNat) + 0 ≤ 7302250; omega⟩ rfl (Nat.le_of_ble_eq_true rfl) dL_law_784 ?_
          rintro _ τ654 ⟨x657, rfl, i655, f656, b658⟩
          have r661 : Rel τ654 := r652.call f656 (by decide) (by decide)
          have r662 : RT τ654 := r653.call f656 (by decide) (by decide)
          show MW p l e _ s m _ below meth c _ 4 G (250 + 8 * y3.toInt.toNat) (5300 + 24 * y3.toInt.toNat) 787 [some (.ref b), some (.ref (G.1 0 0)), some (.ref (G.1 22 0)), some (.int y3)] [.int x657] τ654
          refine m_pop C dL_law_787 rfl ?_
          refine m_goto (tgt := 1028) C dL_law_788 (by decide) ?_
          obtain ⟨x663, ex663⟩ : ∃ y : Int32, y = y3 + 6 := ⟨_, rfl⟩
          have tx663 : x663.toInt = y3.toInt + 6 := by rw [ex663, ti_addv b8 kc_6 (by decide), kt_6]
          have b664 : IV x663 6 3072 := by rw [ex663]; exact iv_add b8 kc_6 (by decide)
          refine m_iinc (v := x663) (L1 := [some (.ref b), some (.ref (G.1 0 0)), some (.ref (G.1 22 0)), some (.int x663)]) C dL_law_1028 rfl (by rw [ex663]; rfl) (by decide) rfl rfl ?_
          refine m_goto (tgt := 18) C dL_law_1031 (by decide) ?_
          refine m_widen (c2 := 250 + 8 * x663.toInt.toNat) (s2 := 5300 + 24 * x663.toInt.toNat) (by omega) (by omega) ?_
          exact ih18 τ654 x663 i655 r661 r662 (iv_wk b664 (by decide)) (by have q := hm18; omega)
        by_cases s665 : x11.toInt = 21
        · refine m_tableIn (tgt := 791) (off := 758) C dL_law_33 (by omega) (by omega) (by rw [s665]; rfl) (by decide) ?_
          have b666 : IV x11 21 21 := ⟨by omega, by omega⟩
          refine m_aload_n C dL_law_791 rfl rfl ?_
          refine m_aload_n C dL_law_792 rfl rfl ?_
          refine m_iload_n C dL_law_793 rfl rfl ?_
          refine m_iconst (v := 1) C dL_law_794 (by decide) ?_
          refine m_iadd C dL_law_795 ?_
          refine m_topi (fun x667 ex667 => ?_)
          have tx667 : x667.toInt = y3.toInt + 1 := by rw [ex667, ti_addv b8 kc_1 (by decide), kt_1]
          have b668 : IV x667 1 3067 := by rw [ex667]; exact iv_add b8 kc_1 (by decide)
          refine m_sld C hX hbl hbA ⟨by omega, by omega⟩ dL_law_796 ?_
          refine m_topi (fun x669 ex669 => ?_)
          refine m_aload_n C dL_law_797 rfl rfl ?_
          refine m_iload_n C dL_law_798 rfl rfl ?_
          refine m_iconst (v := 2) C dL_law_799 (by decide) ?_
          refine m_iadd C dL_law_800 ?_
          refine m_topi (fun x670 ex670 => ?_)
          have tx670 : x670.toInt = y3.toInt + 2 := by rw [ex670, ti_addv b8 kc_2 (by decide), kt_2]
          have b671 : IV x670 2 3068 := by rw [ex670]; exact iv_add b8 kc_2 (by decide)
          refine m_sld C hX hbl hbA ⟨by omega, by omega⟩ dL_law_801 ?_
          refine m_topi (fun x672 ex672 => ?_)
          refine m_aload_n C dL_law_802 rfl rfl ?_
          refine m_iload_n C dL_law_803 rfl rfl ?_
          refine m_iconst (v := 3) C dL_law_804 (by decide) ?_
          refine m_iadd C dL_law_805 ?_
          refine m_topi (fun x673 ex673 => ?_)
          have tx673 : x673.toInt = y3.toInt + 3 := by rw [ex673, ti_addv b8 kc_3 (by decide), kt_3]
          have b674 : IV x673 3 3069 := by rw [ex673]; exact iv_add b8 kc_3 (by decide)
          refine m_sld C hX hbl hbA ⟨by omega, by omega⟩ dL_law_806 ?_
          refine m_topi (fun x675 ex675 => ?_)
          refine m_callV (n := 3) (ci := 10) (st := []) C (c_X11_bells l G τ (x669) (x672) (x675) iτ ) (by decide) (by decide) rfl rfl rfl q3_224 q3_221 q3_222 q3_223 q1_1 (by decide +kernel) rfl (by decide) ⟨by show (250 + 8 * y3.toInt.toNat) + 0 ≤ 600000; omega, by show (5300 + 24 * y3.toInt.toNat) + 0 ≤ 7302250; omega⟩ rfl (Nat.le_of_ble_eq_true rfl) dL_law_807 ?_
          rintro _ τ676 ⟨x679, rfl, i677, f678, b680⟩
          have r683 : Rel τ676 := rτ.call f678 (by decide) (by decide)
          have r684 : RT τ676 := tτ.call f678 (by decide) (by decide)
          show MW p l e _ s m _ below meth c _ 4 G (250 + 8 * y3.toInt.toNat) (5300 + 24 * y3.toInt.toNat) 810 [some (.ref b), some (.ref (G.1 0 0)), some (.ref (G.1 22 0)), some (.int y3)] [.int x679] τ676
          refine m_pop C dL_law_810 rfl ?_
          refine m_aload_n C dL_law_811 rfl rfl ?_
          refine m_aload_n C dL_law_812 rfl rfl ?_
          refine m_iload_n C dL_law_813 rfl rfl ?_
          refine m_iconst (v := 1) C dL_law_814 (by decide) ?_
          refine m_iadd C dL_law_815 ?_
          refine m_topi (fun x685 ex685 => ?_)
          have tx685 : x685.toInt = y3.toInt + 1 := by rw [ex685, ti_addv b8 kc_1 (by decide), kt_1]
          have b686 : IV x685 1 3067 := by rw [ex685]; exact iv_add b8 kc_1 (by decide)
          refine m_sld C hX hbl hbA ⟨by omega, by omega⟩ dL_law_816 ?_
          refine m_eqs (w := x669) (by rw [ex669, show x685.toInt.toNat = x667.toInt.toNat by omega]) ?_
          refine m_aload_n C dL_law_817 rfl rfl ?_
          refine m_iload_n C dL_law_818 rfl rfl ?_
          refine m_iconst (v := 2) C dL_law_819 (by decide) ?_
          refine m_iadd C dL_law_820 ?_
          refine m_topi (fun x687 ex687 => ?_)
          have tx687 : x687.toInt = y3.toInt + 2 := by rw [ex687, ti_addv b8 kc_2 (by decide), kt_2]
          have b688 : IV x687 2 3068 := by rw [ex687]; exact iv_add b8 kc_2 (by decide)
          refine m_sld C hX hbl hbA ⟨by omega, by omega⟩ dL_law_821 ?_
          refine m_eqs (w := x672) (by rw [ex672, show x687.toInt.toNat = x670.toInt.toNat by omega]) ?_
          refine m_aload_n C dL_law_822 rfl rfl ?_
          refine m_iload_n C dL_law_823 rfl rfl ?_
          refine m_iconst (v := 3) C dL_law_824 (by decide) ?_
          refine m_iadd C dL_law_825 ?_
          refine m_topi (fun x689 ex689 => ?_)
          have tx689 : x689.toInt = y3.toInt + 3 := by rw [ex689, ti_addv b8 kc_3 (by decide), kt_3]
          have b690 : IV x689 3 3069 := by rw [ex689]; exact iv_add b8 kc_3 (by decide)
          refine m_sld C hX hbl hbA ⟨by omega, by omega⟩ dL_law_826 ?_
          refine m_eqs (w := x675) (by rw [ex675, show x689.toInt.toNat = x673.toInt.toNat by omega]) ?_
          refine m_callV (n := 3) (ci := 11) (st := []) C (c_X12_bells l G τ676 (x669) (x672) (x675) i677 ) (by decide) (by decide) rfl rfl rfl q5_172 q5_169 q5_170 q5_171 q1_7 (by decide +kernel) rfl (by decide) ⟨by show (250 + 8 * y3.toInt.toNat) + 0 ≤ 600000; omega, by show (5300 + 24 * y3.toInt.toNat) + 0 ≤ 7302250; omega⟩ rfl (Nat.le_of_ble_eq_true rfl) dL_law_827 ?_
          rintro _ τ691 ⟨x694, rfl, i692, f693, b695⟩
          have r698 : Rel τ691 := r683.call f693 (by decide) (by decide)
          have r699 : RT τ691 := r684.call f693 (by decide) (by decide)
          show MW p l e _ s m _ below meth c _ 4 G (250 + 8 * y3.toInt.toNat) (5300 + 24 * y3.toInt.toNat) 830 [some (.ref b), some (.ref (G.1 0 0)), some (.ref (G.1 22 0)), some (.int y3)] [.int x694] τ691
          refine m_pop C dL_law_830 rfl ?_
          refine m_goto (tgt := 1028) C dL_law_831 (by decide) ?_
          obtain ⟨x700, ex700⟩ : ∃ y : Int32, y = y3 + 6 := ⟨_, rfl⟩
          have tx700 : x700.toInt = y3.toInt + 6 := by rw [ex700, ti_addv b8 kc_6 (by decide), kt_6]
          have b701 : IV x700 6 3072 := by rw [ex700]; exact iv_add b8 kc_6 (by decide)
          refine m_iinc (v := x700) (L1 := [some (.ref b), some (.ref (G.1 0 0)), some (.ref (G.1 22 0)), some (.int x700)]) C dL_law_1028 rfl (by rw [ex700]; rfl) (by decide) rfl rfl ?_
          refine m_goto (tgt := 18) C dL_law_1031 (by decide) ?_
          refine m_widen (c2 := 250 + 8 * x700.toInt.toNat) (s2 := 5300 + 24 * x700.toInt.toNat) (by omega) (by omega) ?_
          exact ih18 τ691 x700 i692 r698 r699 (iv_wk b701 (by decide)) (by have q := hm18; omega)
        by_cases s702 : x11.toInt = 22
        · refine m_tableIn (tgt := 834) (off := 801) C dL_law_33 (by omega) (by omega) (by rw [s702]; rfl) (by decide) ?_
          have b703 : IV x11 22 22 := ⟨by omega, by omega⟩
          refine m_aload_n C dL_law_834 rfl rfl ?_
          refine m_aload_n C dL_law_835 rfl rfl ?_
          refine m_iload_n C dL_law_836 rfl rfl ?_
          refine m_iconst (v := 1) C dL_law_837 (by decide) ?_
          refine m_iadd C dL_law_838 ?_
          refine m_topi (fun x704 ex704 => ?_)
          have tx704 : x704.toInt = y3.toInt + 1 := by rw [ex704, ti_addv b8 kc_1 (by decide), kt_1]
          have b705 : IV x704 1 3067 := by rw [ex704]; exact iv_add b8 kc_1 (by decide)
          refine m_sld C hX hbl hbA ⟨by omega, by omega⟩ dL_law_839 ?_
          refine m_topi (fun x706 ex706 => ?_)
          refine m_callV (n := 1) (ci := 10) (st := []) C (c_X11_image l G τ (x706) iτ ) (by decide) (by decide) rfl rfl rfl q4_0 q3_237 q3_238 q3_239 q1_1 (by decide +kernel) rfl (by decide) ⟨by show (250 + 8 * y3.toInt.toNat) + 0 ≤ 600000; omega, by show (5300 + 24 * y3.toInt.toNat) + 0 ≤ 7302250; omega⟩ rfl (Nat.le_of_ble_eq_true rfl) dL_law_840 ?_
          rintro _ τ707 ⟨x710, rfl, i708, f709, b711⟩
          have r714 : Rel τ707 := rτ.call f709 (by decide) (by decide)
          have r715 : RT τ707 := tτ.call f709 (by decide) (by decide)
          show MW p l e _ s m _ below meth c _ 4 G (250 + 8 * y3.toInt.toNat) (5300 + 24 * y3.toInt.toNat) 843 [some (.ref b), some (.ref (G.1 0 0)), some (.ref (G.1 22 0)), some (.int y3)] [.int x710] τ707
          refine m_pop C dL_law_843 rfl ?_
          refine m_aload_n C dL_law_844 rfl rfl ?_
          refine m_aload_n C dL_law_845 rfl rfl ?_
          refine m_iload_n C dL_law_846 rfl rfl ?_
          refine m_iconst (v := 1) C dL_law_847 (by decide) ?_
          refine m_iadd C dL_law_848 ?_
          refine m_topi (fun x716 ex716 => ?_)
          have tx716 : x716.toInt = y3.toInt + 1 := by rw [ex716, ti_addv b8 kc_1 (by decide), kt_1]
          have b717 : IV x716 1 3067 := by rw [ex716]; exact iv_add b8 kc_1 (by decide)
          refine m_sld C hX hbl hbA ⟨by omega, by omega⟩ dL_law_849 ?_
          refine m_eqs (w := x706) (by rw [ex706, show x716.toInt.toNat = x704.toInt.toNat by omega]) ?_
          refine m_callV (n := 1) (ci := 11) (st := []) C (c_X12_image l G τ707 (x706) i708 ) (by decide) (by decide) rfl rfl rfl q5_178 q5_175 q5_176 q5_177 q1_7 (by decide +kernel) rfl (by decide) ⟨by show (250 + 8 * y3.toInt.toNat) + 0 ≤ 600000; omega, by show (5300 + 24 * y3.toInt.toNat) + 0 ≤ 7302250; omega⟩ rfl (Nat.le_of_ble_eq_true rfl) dL_law_850 ?_
          rintro _ τ718 ⟨x721, rfl, i719, f720, b722⟩
          have r725 : Rel τ718 := r714.call f720 (by decide) (by decide)
          have r726 : RT τ718 := r715.call f720 (by decide) (by decide)
          show MW p l e _ s m _ below meth c _ 4 G (250 + 8 * y3.toInt.toNat) (5300 + 24 * y3.toInt.toNat) 853 [some (.ref b), some (.ref (G.1 0 0)), some (.ref (G.1 22 0)), some (.int y3)] [.int x721] τ718
          refine m_pop C dL_law_853 rfl ?_
          refine m_goto (tgt := 1028) C dL_law_854 (by decide) ?_
          obtain ⟨x727, ex727⟩ : ∃ y : Int32, y = y3 + 6 := ⟨_, rfl⟩
          have tx727 : x727.toInt = y3.toInt + 6 := by rw [ex727, ti_addv b8 kc_6 (by decide), kt_6]
          have b728 : IV x727 6 3072 := by rw [ex727]; exact iv_add b8 kc_6 (by decide)
          refine m_iinc (v := x727) (L1 := [some (.ref b), some (.ref (G.1 0 0)), some (.ref (G.1 22 0)), some (.int x727)]) C dL_law_1028 rfl (by rw [ex727]; rfl) (by decide) rfl rfl ?_
          refine m_goto (tgt := 18) C dL_law_1031 (by decide) ?_
          refine m_widen (c2 := 250 + 8 * x727.toInt.toNat) (s2 := 5300 + 24 * x727.toInt.toNat) (by omega) (by omega) ?_
          exact ih18 τ718 x727 i719 r725 r726 (iv_wk b728 (by decide)) (by have q := hm18; omega)
        by_cases s729 : x11.toInt = 23
        · refine m_tableIn (tgt := 857) (off := 824) C dL_law_33 (by omega) (by omega) (by rw [s729]; rfl) (by decide) ?_
          have b730 : IV x11 23 23 := ⟨by omega, by omega⟩
          refine m_aload_n C dL_law_857 rfl rfl ?_
          refine m_aload_n C dL_law_858 rfl rfl ?_
          refine m_iload_n C dL_law_859 rfl rfl ?_
          refine m_iconst (v := 1) C dL_law_860 (by decide) ?_
          refine m_iadd C dL_law_861 ?_
          refine m_topi (fun x731 ex731 => ?_)
          have tx731 : x731.toInt = y3.toInt + 1 := by rw [ex731, ti_addv b8 kc_1 (by decide), kt_1]
          have b732 : IV x731 1 3067 := by rw [ex731]; exact iv_add b8 kc_1 (by decide)
          refine m_sld C hX hbl hbA ⟨by omega, by omega⟩ dL_law_862 ?_
          refine m_topi (fun x733 ex733 => ?_)
          refine m_callV (n := 1) (ci := 10) (st := []) C (c_X11_restore l G τ (x733) iτ ) (by decide) (by decide) rfl rfl rfl q4_4 q4_1 q4_2 q4_3 q1_1 (by decide +kernel) rfl (by decide) ⟨by show (250 + 8 * y3.toInt.toNat) + 0 ≤ 600000; omega, by show (5300 + 24 * y3.toInt.toNat) + 0 ≤ 7302250; omega⟩ rfl (Nat.le_of_ble_eq_true rfl) dL_law_863 ?_
          rintro _ τ734 ⟨x737, rfl, i735, f736, b738⟩
          have r741 : Rel τ734 := rτ.call f736 (by decide) (by decide)
          have r742 : RT τ734 := tτ.call f736 (by decide) (by decide)
          show MW p l e _ s m _ below meth c _ 4 G (250 + 8 * y3.toInt.toNat) (5300 + 24 * y3.toInt.toNat) 866 [some (.ref b), some (.ref (G.1 0 0)), some (.ref (G.1 22 0)), some (.int y3)] [.int x737] τ734
          refine m_pop C dL_law_866 rfl ?_
          refine m_aload_n C dL_law_867 rfl rfl ?_
          refine m_aload_n C dL_law_868 rfl rfl ?_
          refine m_iload_n C dL_law_869 rfl rfl ?_
          refine m_iconst (v := 1) C dL_law_870 (by decide) ?_
          refine m_iadd C dL_law_871 ?_
          refine m_topi (fun x743 ex743 => ?_)
          have tx743 : x743.toInt = y3.toInt + 1 := by rw [ex743, ti_addv b8 kc_1 (by decide), kt_1]
          have b744 : IV x743 1 3067 := by rw [ex743]; exact iv_add b8 kc_1 (by decide)
          refine m_sld C hX hbl hbA ⟨by omega, by omega⟩ dL_law_872 ?_
          refine m_eqs (w := x733) (by rw [ex733, show x743.toInt.toNat = x731.toInt.toNat by omega]) ?_
          refine m_callV (n := 1) (ci := 11) (st := []) C (c_X12_restore l G τ734 (x733) i735 ) (by decide) (by decide) rfl rfl rfl q5_182 q5_179 q5_180 q5_181 q1_7 (by decide +kernel) rfl (by decide) ⟨by show (250 + 8 * y3.toInt.toNat) + 0 ≤ 600000; omega, by show (5300 + 24 * y3.toInt.toNat) + 0 ≤ 7302250; omega⟩ rfl (Nat.le_of_ble_eq_true rfl) dL_law_873 ?_
          rintro _ τ745 ⟨x748, rfl, i746, f747, b749⟩
          have r752 : Rel τ745 := r741.call f747 (by decide) (by decide)
          have r753 : RT τ745 := r742.call f747 (by decide) (by decide)
          show MW p l e _ s m _ below meth c _ 4 G (250 + 8 * y3.toInt.toNat) (5300 + 24 * y3.toInt.toNat) 876 [some (.ref b), some (.ref (G.1 0 0)), some (.ref (G.1 22 0)), some (.int y3)] [.int x748] τ745
          refine m_pop C dL_law_876 rfl ?_
          refine m_goto (tgt := 1028) C dL_law_877 (by decide) ?_
          obtain ⟨x754, ex754⟩ : ∃ y : Int32, y = y3 + 6 := ⟨_, rfl⟩
          have tx754 : x754.toInt = y3.toInt + 6 := by rw [ex754, ti_addv b8 kc_6 (by decide), kt_6]
          have b755 : IV x754 6 3072 := by rw [ex754]; exact iv_add b8 kc_6 (by decide)
          refine m_iinc (v := x754) (L1 := [some (.ref b), some (.ref (G.1 0 0)), some (.ref (G.1 22 0)), some (.int x754)]) C dL_law_1028 rfl (by rw [ex754]; rfl) (by decide) rfl rfl ?_
          refine m_goto (tgt := 18) C dL_law_1031 (by decide) ?_
          refine m_widen (c2 := 250 + 8 * x754.toInt.toNat) (s2 := 5300 + 24 * x754.toInt.toNat) (by omega) (by omega) ?_
          exact ih18 τ745 x754 i746 r752 r753 (iv_wk b755 (by decide)) (by have q := hm18; omega)
        by_cases s756 : x11.toInt = 24
        · refine m_tableIn (tgt := 880) (off := 847) C dL_law_33 (by omega) (by omega) (by rw [s756]; rfl) (by decide) ?_
          have b757 : IV x11 24 24 := ⟨by omega, by omega⟩
          refine m_aload_n C dL_law_880 rfl rfl ?_
          refine m_aload_n C dL_law_881 rfl rfl ?_
          refine m_iload_n C dL_law_882 rfl rfl ?_
          refine m_iconst (v := 1) C dL_law_883 (by decide) ?_
          refine m_iadd C dL_law_884 ?_
          refine m_topi (fun x758 ex758 => ?_)
          have tx758 : x758.toInt = y3.toInt + 1 := by rw [ex758, ti_addv b8 kc_1 (by decide), kt_1]
          have b759 : IV x758 1 3067 := by rw [ex758]; exact iv_add b8 kc_1 (by decide)
          refine m_sld C hX hbl hbA ⟨by omega, by omega⟩ dL_law_885 ?_
          refine m_topi (fun x760 ex760 => ?_)
          refine m_callV (n := 1) (ci := 10) (st := []) C (c_X11_kind l G τ (x760) iτ ) (by decide) (by decide) rfl rfl rfl q4_8 q4_5 q4_6 q4_7 q1_1 (by decide +kernel) rfl (by decide) ⟨by show (250 + 8 * y3.toInt.toNat) + 0 ≤ 600000; omega, by show (5300 + 24 * y3.toInt.toNat) + 0 ≤ 7302250; omega⟩ rfl (Nat.le_of_ble_eq_true rfl) dL_law_886 ?_
          rintro _ τ761 ⟨x764, rfl, i762, f763, b765⟩
          have r768 : Rel τ761 := rτ.call f763 (by decide) (by decide)
          have r769 : RT τ761 := tτ.call f763 (by decide) (by decide)
          show MW p l e _ s m _ below meth c _ 4 G (250 + 8 * y3.toInt.toNat) (5300 + 24 * y3.toInt.toNat) 889 [some (.ref b), some (.ref (G.1 0 0)), some (.ref (G.1 22 0)), some (.int y3)] [.int x764] τ761
          refine m_pop C dL_law_889 rfl ?_
          refine m_aload_n C dL_law_890 rfl rfl ?_
          refine m_aload_n C dL_law_891 rfl rfl ?_
          refine m_iload_n C dL_law_892 rfl rfl ?_
          refine m_iconst (v := 1) C dL_law_893 (by decide) ?_
          refine m_iadd C dL_law_894 ?_
          refine m_topi (fun x770 ex770 => ?_)
          have tx770 : x770.toInt = y3.toInt + 1 := by rw [ex770, ti_addv b8 kc_1 (by decide), kt_1]
          have b771 : IV x770 1 3067 := by rw [ex770]; exact iv_add b8 kc_1 (by decide)
          refine m_sld C hX hbl hbA ⟨by omega, by omega⟩ dL_law_895 ?_
          refine m_eqs (w := x760) (by rw [ex760, show x770.toInt.toNat = x758.toInt.toNat by omega]) ?_
          refine m_callV (n := 1) (ci := 11) (st := []) C (c_X12_kind l G τ761 (x760) i762 ) (by decide) (by decide) rfl rfl rfl q5_186 q5_183 q5_184 q5_185 q1_7 (by decide +kernel) rfl (by decide) ⟨by show (250 + 8 * y3.toInt.toNat) + 0 ≤ 600000; omega, by show (5300 + 24 * y3.toInt.toNat) + 0 ≤ 7302250; omega⟩ rfl (Nat.le_of_ble_eq_true rfl) dL_law_896 ?_
          rintro _ τ772 ⟨x775, rfl, i773, f774, b776⟩
          have r779 : Rel τ772 := r768.call f774 (by decide) (by decide)
          have r780 : RT τ772 := r769.call f774 (by decide) (by decide)
          show MW p l e _ s m _ below meth c _ 4 G (250 + 8 * y3.toInt.toNat) (5300 + 24 * y3.toInt.toNat) 899 [some (.ref b), some (.ref (G.1 0 0)), some (.ref (G.1 22 0)), some (.int y3)] [.int x775] τ772
          refine m_pop C dL_law_899 rfl ?_
          refine m_goto (tgt := 1028) C dL_law_900 (by decide) ?_
          obtain ⟨x781, ex781⟩ : ∃ y : Int32, y = y3 + 6 := ⟨_, rfl⟩
          have tx781 : x781.toInt = y3.toInt + 6 := by rw [ex781, ti_addv b8 kc_6 (by decide), kt_6]
          have b782 : IV x781 6 3072 := by rw [ex781]; exact iv_add b8 kc_6 (by decide)
          refine m_iinc (v := x781) (L1 := [some (.ref b), some (.ref (G.1 0 0)), some (.ref (G.1 22 0)), some (.int x781)]) C dL_law_1028 rfl (by rw [ex781]; rfl) (by decide) rfl rfl ?_
          refine m_goto (tgt := 18) C dL_law_1031 (by decide) ?_
          refine m_widen (c2 := 250 + 8 * x781.toInt.toNat) (s2 := 5300 + 24 * x781.toInt.toNat) (by omega) (by omega) ?_
          exact ih18 τ772 x781 i773 r779 r780 (iv_wk b782 (by decide)) (by have q := hm18; omega)
        by_cases s783 : x11.toInt = 25
        · refine m_tableIn (tgt := 903) (off := 870) C dL_law_33 (by omega) (by omega) (by rw [s783]; rfl) (by decide) ?_
          have b784 : IV x11 25 25 := ⟨by omega, by omega⟩
          refine m_aload_n C dL_law_903 rfl rfl ?_
          refine m_aload_n C dL_law_904 rfl rfl ?_
          refine m_iload_n C dL_law_905 rfl rfl ?_
          refine m_iconst (v := 1) C dL_law_906 (by decide) ?_
          refine m_iadd C dL_law_907 ?_
          refine m_topi (fun x785 ex785 => ?_)
          have tx785 : x785.toInt = y3.toInt + 1 := by rw [ex785, ti_addv b8 kc_1 (by decide), kt_1]
          have b786 : IV x785 1 3067 := by rw [ex785]; exact iv_add b8 kc_1 (by decide)
          refine m_sld C hX hbl hbA ⟨by omega, by omega⟩ dL_law_908 ?_
          refine m_topi (fun x787 ex787 => ?_)
          refine m_aload_n C dL_law_909 rfl rfl ?_
          refine m_iload_n C dL_law_910 rfl rfl ?_
          refine m_iconst (v := 2) C dL_law_911 (by decide) ?_
          refine m_iadd C dL_law_912 ?_
          refine m_topi (fun x788 ex788 => ?_)
          have tx788 : x788.toInt = y3.toInt + 2 := by rw [ex788, ti_addv b8 kc_2 (by decide), kt_2]
          have b789 : IV x788 2 3068 := by rw [ex788]; exact iv_add b8 kc_2 (by decide)
          refine m_sld C hX hbl hbA ⟨by omega, by omega⟩ dL_law_913 ?_
          refine m_topi (fun x790 ex790 => ?_)
          refine m_callV (n := 2) (ci := 10) (st := []) C (c_X11_as l G τ (x787) (x790) iτ ) (by decide) (by decide) rfl rfl rfl q4_30 q4_27 q4_28 q4_29 q1_1 (by decide +kernel) rfl (by decide) ⟨by show (250 + 8 * y3.toInt.toNat) + 0 ≤ 600000; omega, by show (5300 + 24 * y3.toInt.toNat) + 0 ≤ 7302250; omega⟩ rfl (Nat.le_of_ble_eq_true rfl) dL_law_914 ?_
          rintro _ τ791 ⟨x794, rfl, i792, f793, b795⟩
          have r798 : Rel τ791 := rτ.call f793 (by decide) (by decide)
          have r799 : RT τ791 := tτ.call f793 (by decide) (by decide)
          show MW p l e _ s m _ below meth c _ 4 G (250 + 8 * y3.toInt.toNat) (5300 + 24 * y3.toInt.toNat) 917 [some (.ref b), some (.ref (G.1 0 0)), some (.ref (G.1 22 0)), some (.int y3)] [.int x794] τ791
          refine m_pop C dL_law_917 rfl ?_
          refine m_aload_n C dL_law_918 rfl rfl ?_
          refine m_aload_n C dL_law_919 rfl rfl ?_
          refine m_iload_n C dL_law_920 rfl rfl ?_
          refine m_iconst (v := 1) C dL_law_921 (by decide) ?_
          refine m_iadd C dL_law_922 ?_
          refine m_topi (fun x800 ex800 => ?_)
          have tx800 : x800.toInt = y3.toInt + 1 := by rw [ex800, ti_addv b8 kc_1 (by decide), kt_1]
          have b801 : IV x800 1 3067 := by rw [ex800]; exact iv_add b8 kc_1 (by decide)
          refine m_sld C hX hbl hbA ⟨by omega, by omega⟩ dL_law_923 ?_
          refine m_eqs (w := x787) (by rw [ex787, show x800.toInt.toNat = x785.toInt.toNat by omega]) ?_
          refine m_aload_n C dL_law_924 rfl rfl ?_
          refine m_iload_n C dL_law_925 rfl rfl ?_
          refine m_iconst (v := 2) C dL_law_926 (by decide) ?_
          refine m_iadd C dL_law_927 ?_
          refine m_topi (fun x802 ex802 => ?_)
          have tx802 : x802.toInt = y3.toInt + 2 := by rw [ex802, ti_addv b8 kc_2 (by decide), kt_2]
          have b803 : IV x802 2 3068 := by rw [ex802]; exact iv_add b8 kc_2 (by decide)
          refine m_sld C hX hbl hbA ⟨by omega, by omega⟩ dL_law_928 ?_
          refine m_eqs (w := x790) (by rw [ex790, show x802.toInt.toNat = x788.toInt.toNat by omega]) ?_
          refine m_callV (n := 2) (ci := 11) (st := []) C (c_X12_as l G τ791 (x787) (x790) i792 ) (by decide) (by decide) rfl rfl rfl q5_190 q5_187 q5_188 q5_189 q1_7 (by decide +kernel) rfl (by decide) ⟨by show (250 + 8 * y3.toInt.toNat) + 0 ≤ 600000; omega, by show (5300 + 24 * y3.toInt.toNat) + 0 ≤ 7302250; omega⟩ rfl (Nat.le_of_ble_eq_true rfl) dL_law_929 ?_
          rintro _ τ804 ⟨x807, rfl, i805, f806, b808⟩
          have r811 : Rel τ804 := r798.call f806 (by decide) (by decide)
          have r812 : RT τ804 := r799.call f806 (by decide) (by decide)
          show MW p l e _ s m _ below meth c _ 4 G (250 + 8 * y3.toInt.toNat) (5300 + 24 * y3.toInt.toNat) 932 [some (.ref b), some (.ref (G.1 0 0)), some (.ref (G.1 22 0)), some (.int y3)] [.int x807] τ804
          refine m_pop C dL_law_932 rfl ?_
          refine m_goto (tgt := 1028) C dL_law_933 (by decide) ?_
          obtain ⟨x813, ex813⟩ : ∃ y : Int32, y = y3 + 6 := ⟨_, rfl⟩
          have tx813 : x813.toInt = y3.toInt + 6 := by rw [ex813, ti_addv b8 kc_6 (by decide), kt_6]
          have b814 : IV x813 6 3072 := by rw [ex813]; exact iv_add b8 kc_6 (by decide)
          refine m_iinc (v := x813) (L1 := [some (.ref b), some (.ref (G.1 0 0)), some (.ref (G.1 22 0)), some (.int x813)]) C dL_law_1028 rfl (by rw [ex813]; rfl) (by decide) rfl rfl ?_
          refine m_goto (tgt := 18) C dL_law_1031 (by decide) ?_
          refine m_widen (c2 := 250 + 8 * x813.toInt.toNat) (s2 := 5300 + 24 * x813.toInt.toNat) (by omega) (by omega) ?_
          exact ih18 τ804 x813 i805 r811 r812 (iv_wk b814 (by decide)) (by have q := hm18; omega)
        by_cases s815 : x11.toInt = 26
        · refine m_tableIn (tgt := 936) (off := 903) C dL_law_33 (by omega) (by omega) (by rw [s815]; rfl) (by decide) ?_
          have b816 : IV x11 26 26 := ⟨by omega, by omega⟩
          refine m_aload_n C dL_law_936 rfl rfl ?_
          refine m_aload_n C dL_law_937 rfl rfl ?_
          refine m_iload_n C dL_law_938 rfl rfl ?_
          refine m_iconst (v := 1) C dL_law_939 (by decide) ?_
          refine m_iadd C dL_law_940 ?_
          refine m_topi (fun x817 ex817 => ?_)
          have tx817 : x817.toInt = y3.toInt + 1 := by rw [ex817, ti_addv b8 kc_1 (by decide), kt_1]
          have b818 : IV x817 1 3067 := by rw [ex817]; exact iv_add b8 kc_1 (by decide)
          refine m_sld C hX hbl hbA ⟨by omega, by omega⟩ dL_law_941 ?_
          refine m_topi (fun x819 ex819 => ?_)
          refine m_aload_n C dL_law_942 rfl rfl ?_
          refine m_iload_n C dL_law_943 rfl rfl ?_
          refine m_iconst (v := 2) C dL_law_944 (by decide) ?_
          refine m_iadd C dL_law_945 ?_
          refine m_topi (fun x820 ex820 => ?_)
          have tx820 : x820.toInt = y3.toInt + 2 := by rw [ex820, ti_addv b8 kc_2 (by decide), kt_2]
          have b821 : IV x820 2 3068 := by rw [ex820]; exact iv_add b8 kc_2 (by decide)
          refine m_sld C hX hbl hbA ⟨by omega, by omega⟩ dL_law_946 ?_
          refine m_topi (fun x822 ex822 => ?_)
          refine m_callV (n := 2) (ci := 10) (st := []) C (c_X11_ask l G τ (x819) (x822) iτ ) (by decide) (by decide) rfl rfl rfl q4_42 q4_39 q4_40 q4_41 q1_1 (by decide +kernel) rfl (by decide) ⟨by show (250 + 8 * y3.toInt.toNat) + 0 ≤ 600000; omega, by show (5300 + 24 * y3.toInt.toNat) + 0 ≤ 7302250; omega⟩ rfl (Nat.le_of_ble_eq_true rfl) dL_law_947 ?_
          rintro _ τ823 ⟨x826, rfl, i824, f825, b827⟩
          have r830 : Rel τ823 := rτ.call f825 (by decide) (by decide)
          have r831 : RT τ823 := tτ.call f825 (by decide) (by decide)
          show MW p l e _ s m _ below meth c _ 4 G (250 + 8 * y3.toInt.toNat) (5300 + 24 * y3.toInt.toNat) 950 [some (.ref b), some (.ref (G.1 0 0)), some (.ref (G.1 22 0)), some (.int y3)] [.int x826] τ823
          refine m_pop C dL_law_950 rfl ?_
          refine m_aload_n C dL_law_951 rfl rfl ?_
          refine m_aload_n C dL_law_952 rfl rfl ?_
          refine m_iload_n C dL_law_953 rfl rfl ?_
          refine m_iconst (v := 1) C dL_law_954 (by decide) ?_
          refine m_iadd C dL_law_955 ?_
          refine m_topi (fun x832 ex832 => ?_)
          have tx832 : x832.toInt = y3.toInt + 1 := by rw [ex832, ti_addv b8 kc_1 (by decide), kt_1]
          have b833 : IV x832 1 3067 := by rw [ex832]; exact iv_add b8 kc_1 (by decide)
          refine m_sld C hX hbl hbA ⟨by omega, by omega⟩ dL_law_956 ?_
          refine m_eqs (w := x819) (by rw [ex819, show x832.toInt.toNat = x817.toInt.toNat by omega]) ?_
          refine m_aload_n C dL_law_957 rfl rfl ?_
          refine m_iload_n C dL_law_958 rfl rfl ?_
          refine m_iconst (v := 2) C dL_law_959 (by decide) ?_
          refine m_iadd C dL_law_960 ?_
          refine m_topi (fun x834 ex834 => ?_)
          have tx834 : x834.toInt = y3.toInt + 2 := by rw [ex834, ti_addv b8 kc_2 (by decide), kt_2]
          have b835 : IV x834 2 3068 := by rw [ex834]; exact iv_add b8 kc_2 (by decide)
          refine m_sld C hX hbl hbA ⟨by omega, by omega⟩ dL_law_961 ?_
          refine m_eqs (w := x822) (by rw [ex822, show x834.toInt.toNat = x820.toInt.toNat by omega]) ?_
          refine m_callV (n := 2) (ci := 11) (st := []) C (c_X12_ask l G τ823 (x819) (x822) i824 ) (by decide) (by decide) rfl rfl rfl q5_197 q5_194 q5_195 q5_196 q1_7 (by decide +kernel) rfl (by decide) ⟨by show (250 + 8 * y3.toInt.toNat) + 0 ≤ 600000; omega, by show (5300 + 24 * y3.toInt.toNat) + 0 ≤ 7302250; omega⟩ rfl (Nat.le_of_ble_eq_true rfl) dL_law_962 ?_
          rintro _ τ836 ⟨x839, rfl, i837, f838, b840⟩
          have r843 : Rel τ836 := r830.call f838 (by decide) (by decide)
          have r844 : RT τ836 := r831.call f838 (by decide) (by decide)
          show MW p l e _ s m _ below meth c _ 4 G (250 + 8 * y3.toInt.toNat) (5300 + 24 * y3.toInt.toNat) 965 [some (.ref b), some (.ref (G.1 0 0)), some (.ref (G.1 22 0)), some (.int y3)] [.int x839] τ836
          refine m_pop C dL_law_965 rfl ?_
          refine m_goto (tgt := 1028) C dL_law_966 (by decide) ?_
          obtain ⟨x845, ex845⟩ : ∃ y : Int32, y = y3 + 6 := ⟨_, rfl⟩
          have tx845 : x845.toInt = y3.toInt + 6 := by rw [ex845, ti_addv b8 kc_6 (by decide), kt_6]
          have b846 : IV x845 6 3072 := by rw [ex845]; exact iv_add b8 kc_6 (by decide)
          refine m_iinc (v := x845) (L1 := [some (.ref b), some (.ref (G.1 0 0)), some (.ref (G.1 22 0)), some (.int x845)]) C dL_law_1028 rfl (by rw [ex845]; rfl) (by decide) rfl rfl ?_
          refine m_goto (tgt := 18) C dL_law_1031 (by decide) ?_
          refine m_widen (c2 := 250 + 8 * x845.toInt.toNat) (s2 := 5300 + 24 * x845.toInt.toNat) (by omega) (by omega) ?_
          exact ih18 τ836 x845 i837 r843 r844 (iv_wk b846 (by decide)) (by have q := hm18; omega)
        by_cases s847 : x11.toInt = 27
        · refine m_tableIn (tgt := 969) (off := 936) C dL_law_33 (by omega) (by omega) (by rw [s847]; rfl) (by decide) ?_
          have b848 : IV x11 27 27 := ⟨by omega, by omega⟩
          refine m_aload_n C dL_law_969 rfl rfl ?_
          refine m_aload_n C dL_law_970 rfl rfl ?_
          refine m_iload_n C dL_law_971 rfl rfl ?_
          refine m_iconst (v := 1) C dL_law_972 (by decide) ?_
          refine m_iadd C dL_law_973 ?_
          refine m_topi (fun x849 ex849 => ?_)
          have tx849 : x849.toInt = y3.toInt + 1 := by rw [ex849, ti_addv b8 kc_1 (by decide), kt_1]
          have b850 : IV x849 1 3067 := by rw [ex849]; exact iv_add b8 kc_1 (by decide)
          refine m_sld C hX hbl hbA ⟨by omega, by omega⟩ dL_law_974 ?_
          refine m_topi (fun x851 ex851 => ?_)
          refine m_callV (n := 1) (ci := 10) (st := []) C (c_X11_trace l G τ (x851) iτ ) (by decide) (by decide) rfl rfl rfl q4_97 q4_94 q4_95 q4_96 q1_1 (by decide +kernel) rfl (by decide) ⟨by show (250 + 8 * y3.toInt.toNat) + 0 ≤ 600000; omega, by show (5300 + 24 * y3.toInt.toNat) + 0 ≤ 7302250; omega⟩ rfl (Nat.le_of_ble_eq_true rfl) dL_law_975 ?_
          rintro _ τ852 ⟨x855, rfl, i853, f854, b856⟩
          have r859 : Rel τ852 := rτ.call f854 (by decide) (by decide)
          have r860 : RT τ852 := tτ.call f854 (by decide) (by decide)
          show MW p l e _ s m _ below meth c _ 4 G (250 + 8 * y3.toInt.toNat) (5300 + 24 * y3.toInt.toNat) 978 [some (.ref b), some (.ref (G.1 0 0)), some (.ref (G.1 22 0)), some (.int y3)] [.int x855] τ852
          refine m_pop C dL_law_978 rfl ?_
          refine m_aload_n C dL_law_979 rfl rfl ?_
          refine m_aload_n C dL_law_980 rfl rfl ?_
          refine m_iload_n C dL_law_981 rfl rfl ?_
          refine m_iconst (v := 1) C dL_law_982 (by decide) ?_
          refine m_iadd C dL_law_983 ?_
          refine m_topi (fun x861 ex861 => ?_)
          have tx861 : x861.toInt = y3.toInt + 1 := by rw [ex861, ti_addv b8 kc_1 (by decide), kt_1]
          have b862 : IV x861 1 3067 := by rw [ex861]; exact iv_add b8 kc_1 (by decide)
          refine m_sld C hX hbl hbA ⟨by omega, by omega⟩ dL_law_984 ?_
          refine m_eqs (w := x851) (by rw [ex851, show x861.toInt.toNat = x849.toInt.toNat by omega]) ?_
          refine m_callV (n := 1) (ci := 11) (st := []) C (c_X12_trace l G τ852 (x851) i853 ) (by decide) (by decide) rfl rfl rfl q5_213 q5_210 q5_211 q5_212 q1_7 (by decide +kernel) rfl (by decide) ⟨by show (250 + 8 * y3.toInt.toNat) + 0 ≤ 600000; omega, by show (5300 + 24 * y3.toInt.toNat) + 0 ≤ 7302250; omega⟩ rfl (Nat.le_of_ble_eq_true rfl) dL_law_985 ?_
          rintro _ τ863 ⟨x866, rfl, i864, f865, b867⟩
          have r870 : Rel τ863 := r859.call f865 (by decide) (by decide)
          have r871 : RT τ863 := r860.call f865 (by decide) (by decide)
          show MW p l e _ s m _ below meth c _ 4 G (250 + 8 * y3.toInt.toNat) (5300 + 24 * y3.toInt.toNat) 988 [some (.ref b), some (.ref (G.1 0 0)), some (.ref (G.1 22 0)), some (.int y3)] [.int x866] τ863
          refine m_pop C dL_law_988 rfl ?_
          refine m_goto (tgt := 1028) C dL_law_989 (by decide) ?_
          obtain ⟨x872, ex872⟩ : ∃ y : Int32, y = y3 + 6 := ⟨_, rfl⟩
          have tx872 : x872.toInt = y3.toInt + 6 := by rw [ex872, ti_addv b8 kc_6 (by decide), kt_6]
          have b873 : IV x872 6 3072 := by rw [ex872]; exact iv_add b8 kc_6 (by decide)
          refine m_iinc (v := x872) (L1 := [some (.ref b), some (.ref (G.1 0 0)), some (.ref (G.1 22 0)), some (.int x872)]) C dL_law_1028 rfl (by rw [ex872]; rfl) (by decide) rfl rfl ?_
          refine m_goto (tgt := 18) C dL_law_1031 (by decide) ?_
          refine m_widen (c2 := 250 + 8 * x872.toInt.toNat) (s2 := 5300 + 24 * x872.toInt.toNat) (by omega) (by omega) ?_
          exact ih18 τ863 x872 i864 r870 r871 (iv_wk b873 (by decide)) (by have q := hm18; omega)
        by_cases s874 : x11.toInt = 28
        · refine m_tableIn (tgt := 992) (off := 959) C dL_law_33 (by omega) (by omega) (by rw [s874]; rfl) (by decide) ?_
          have b875 : IV x11 28 28 := ⟨by omega, by omega⟩
          refine m_aload_n C dL_law_992 rfl rfl ?_
          refine m_aload_n C dL_law_993 rfl rfl ?_
          refine m_iload_n C dL_law_994 rfl rfl ?_
          refine m_iconst (v := 1) C dL_law_995 (by decide) ?_
          refine m_iadd C dL_law_996 ?_
          refine m_topi (fun x876 ex876 => ?_)
          have tx876 : x876.toInt = y3.toInt + 1 := by rw [ex876, ti_addv b8 kc_1 (by decide), kt_1]
          have b877 : IV x876 1 3067 := by rw [ex876]; exact iv_add b8 kc_1 (by decide)
          refine m_sld C hX hbl hbA ⟨by omega, by omega⟩ dL_law_997 ?_
          refine m_topi (fun x878 ex878 => ?_)
          refine m_callV (n := 1) (ci := 10) (st := []) C (c_X11_count l G τ (x878) iτ ) (by decide) (by decide) rfl rfl rfl q4_101 q4_98 q4_99 q4_100 q1_1 (by decide +kernel) rfl (by decide) ⟨by show (250 + 8 * y3.toInt.toNat) + 0 ≤ 600000; omega, by show (5300 + 24 * y3.toInt.toNat) + 0 ≤ 7302250; omega⟩ rfl (Nat.le_of_ble_eq_true rfl) dL_law_998 ?_
          rintro _ τ879 ⟨x882, rfl, i880, f881, b883⟩
          have r886 : Rel τ879 := rτ.call f881 (by decide) (by decide)
          have r887 : RT τ879 := tτ.call f881 (by decide) (by decide)
          show MW p l e _ s m _ below meth c _ 4 G (250 + 8 * y3.toInt.toNat) (5300 + 24 * y3.toInt.toNat) 1001 [some (.ref b), some (.ref (G.1 0 0)), some (.ref (G.1 22 0)), some (.int y3)] [.int x882] τ879
          refine m_pop C dL_law_1001 rfl ?_
          refine m_aload_n C dL_law_1002 rfl rfl ?_
          refine m_aload_n C dL_law_1003 rfl rfl ?_
          refine m_iload_n C dL_law_1004 rfl rfl ?_
          refine m_iconst (v := 1) C dL_law_1005 (by decide) ?_
          refine m_iadd C dL_law_1006 ?_
          refine m_topi (fun x888 ex888 => ?_)
          have tx888 : x888.toInt = y3.toInt + 1 := by rw [ex888, ti_addv b8 kc_1 (by decide), kt_1]
          have b889 : IV x888 1 3067 := by rw [ex888]; exact iv_add b8 kc_1 (by decide)
          refine m_sld C hX hbl hbA ⟨by omega, by omega⟩ dL_law_1007 ?_
          refine m_eqs (w := x878) (by rw [ex878, show x888.toInt.toNat = x876.toInt.toNat by omega]) ?_
          refine m_callV (n := 1) (ci := 11) (st := []) C (c_X12_count l G τ879 (x878) i880 ) (by decide) (by decide) rfl rfl rfl q5_217 q5_214 q5_215 q5_216 q1_7 (by decide +kernel) rfl (by decide) ⟨by show (250 + 8 * y3.toInt.toNat) + 0 ≤ 600000; omega, by show (5300 + 24 * y3.toInt.toNat) + 0 ≤ 7302250; omega⟩ rfl (Nat.le_of_ble_eq_true rfl) dL_law_1008 ?_
          rintro _ τ890 ⟨x893, rfl, i891, f892, b894⟩
          have r897 : Rel τ890 := r886.call f892 (by decide) (by decide)
          have r898 : RT τ890 := r887.call f892 (by decide) (by decide)
          show MW p l e _ s m _ below meth c _ 4 G (250 + 8 * y3.toInt.toNat) (5300 + 24 * y3.toInt.toNat) 1011 [some (.ref b), some (.ref (G.1 0 0)), some (.ref (G.1 22 0)), some (.int y3)] [.int x893] τ890
          refine m_pop C dL_law_1011 rfl ?_
          refine m_goto (tgt := 1028) C dL_law_1012 (by decide) ?_
          obtain ⟨x899, ex899⟩ : ∃ y : Int32, y = y3 + 6 := ⟨_, rfl⟩
          have tx899 : x899.toInt = y3.toInt + 6 := by rw [ex899, ti_addv b8 kc_6 (by decide), kt_6]
          have b900 : IV x899 6 3072 := by rw [ex899]; exact iv_add b8 kc_6 (by decide)
          refine m_iinc (v := x899) (L1 := [some (.ref b), some (.ref (G.1 0 0)), some (.ref (G.1 22 0)), some (.int x899)]) C dL_law_1028 rfl (by rw [ex899]; rfl) (by decide) rfl rfl ?_
          refine m_goto (tgt := 18) C dL_law_1031 (by decide) ?_
          refine m_widen (c2 := 250 + 8 * x899.toInt.toNat) (s2 := 5300 + 24 * x899.toInt.toNat) (by omega) (by omega) ?_
          exact ih18 τ890 x899 i891 r897 r898 (iv_wk b900 (by decide)) (by have q := hm18; omega)
        by_cases s901 : x11.toInt = 29
        · refine m_tableIn (tgt := 1015) (off := 982) C dL_law_33 (by omega) (by omega) (by rw [s901]; rfl) (by decide) ?_
          have b902 : IV x11 29 29 := ⟨by omega, by omega⟩
          refine m_aload_n C dL_law_1015 rfl rfl ?_
          refine m_callV (n := 0) (ci := 10) (st := []) C (c_X11_status l G τ  iτ ) (by decide) (by decide) rfl rfl rfl q4_109 q4_106 q4_107 q4_108 q1_1 (by decide +kernel) rfl (by decide) ⟨by show (250 + 8 * y3.toInt.toNat) + 0 ≤ 600000; omega, by show (5300 + 24 * y3.toInt.toNat) + 0 ≤ 7302250; omega⟩ rfl (Nat.le_of_ble_eq_true rfl) dL_law_1016 ?_
          rintro _ τ903 ⟨x906, rfl, i904, f905, b907⟩
          have r910 : Rel τ903 := rτ.call f905 (by decide) (by decide)
          have r911 : RT τ903 := tτ.call f905 (by decide) (by decide)
          show MW p l e _ s m _ below meth c _ 4 G (250 + 8 * y3.toInt.toNat) (5300 + 24 * y3.toInt.toNat) 1019 [some (.ref b), some (.ref (G.1 0 0)), some (.ref (G.1 22 0)), some (.int y3)] [.int x906] τ903
          refine m_pop C dL_law_1019 rfl ?_
          refine m_aload_n C dL_law_1020 rfl rfl ?_
          refine m_callV (n := 0) (ci := 11) (st := []) C (c_X12_status l G τ903  i904 ) (by decide) (by decide) rfl rfl rfl q5_221 q5_218 q5_219 q5_220 q1_7 (by decide +kernel) rfl (by decide) ⟨by show (250 + 8 * y3.toInt.toNat) + 0 ≤ 600000; omega, by show (5300 + 24 * y3.toInt.toNat) + 0 ≤ 7302250; omega⟩ rfl (Nat.le_of_ble_eq_true rfl) dL_law_1021 ?_
          rintro _ τ912 ⟨x915, rfl, i913, f914, b916⟩
          have r919 : Rel τ912 := r910.call f914 (by decide) (by decide)
          have r920 : RT τ912 := r911.call f914 (by decide) (by decide)
          show MW p l e _ s m _ below meth c _ 4 G (250 + 8 * y3.toInt.toNat) (5300 + 24 * y3.toInt.toNat) 1024 [some (.ref b), some (.ref (G.1 0 0)), some (.ref (G.1 22 0)), some (.int y3)] [.int x915] τ912
          refine m_pop C dL_law_1024 rfl ?_
          refine m_goto (tgt := 1028) C dL_law_1025 (by decide) ?_
          obtain ⟨x921, ex921⟩ : ∃ y : Int32, y = y3 + 6 := ⟨_, rfl⟩
          have tx921 : x921.toInt = y3.toInt + 6 := by rw [ex921, ti_addv b8 kc_6 (by decide), kt_6]
          have b922 : IV x921 6 3072 := by rw [ex921]; exact iv_add b8 kc_6 (by decide)
          refine m_iinc (v := x921) (L1 := [some (.ref b), some (.ref (G.1 0 0)), some (.ref (G.1 22 0)), some (.int x921)]) C dL_law_1028 rfl (by rw [ex921]; rfl) (by decide) rfl rfl ?_
          refine m_goto (tgt := 18) C dL_law_1031 (by decide) ?_
          refine m_widen (c2 := 250 + 8 * x921.toInt.toNat) (s2 := 5300 + 24 * x921.toInt.toNat) (by omega) (by omega) ?_
          exact ih18 τ912 x921 i913 r919 r920 (iv_wk b922 (by decide)) (by have q := hm18; omega)
        exact absurd s13 (by omega)
end LAW
