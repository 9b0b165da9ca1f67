def Hid (P : Prop) : Prop := P
theorem Hid.mk {P : Prop} (h : P) : Hid P := h
section LAW
set_option maxHeartbeats 8000000 in
set_option maxRecDepth 100000 in
theorem law_loop {p : Program} {e : Env} {s : State} {m : MethodId} {below : List Frame} {meth : Method} {c : Code} (l : Launch) {b L : Nat} {xs : Nat → Int32} (hL : L ≤ 3072) (C0 : lw_At p s m meth c b L xs) (G : Gt) (hG0 : G.2.2.2.1 = s.heap.size) : ∀ (n : Nat) (τ : Sg) (y3 : Int32), Inv τ → Rel τ → IV y3 0 3078 → (3078 - y3.toInt).toNat < n → MW p l e room_1 s m #[Value.ref b] below meth c (lw_Z below #[Value.ref b] s) 4 G (250 + 8 * y3.toInt.toNat) (5300 + 24 * y3.toInt.toNat) 18 [some (.ref b), some (.ref (G.1 0 0)), some (.ref (G.1 22 0)), some (.int y3)] [] τ := by
  obtain ⟨hx, hb, hr, hml, hown, hts, hX, hbl, hlk, hgv⟩ := C0
  have C : Cx p s m #[Value.ref b] c cL_law 4 "LeanTowerLaw" := ⟨hx, hb, hml, hown, fun w hw => hts w (List.mem_filter.mp hw).1⟩
  have hbA : ¬ aG G b := fun q => by have q2 : G.2.2.2.1 ≤ b := q; omega
  have hL31 : L < 2 ^ 31 := by omega
  have k0 : (0 : Int32).toInt = 0 := by decide
  have k1 : (1 : Int32).toInt = 1 := by decide
  intro n
  induction n with
  | zero => intro τ y3 iτ rτ b_y3 hm; exact absurd hm (Nat.not_lt_zero _)
  | succ n ih18 =>
      intro τ y3 iτ rτ b_y3 hm18
      refine m_iload_n C dL_law_18 rfl rfl ?_
      refine m_aload_n C dL_law_19 rfl rfl ?_
      refine m_slen C hX hbl hbA hL31 dL_law_20 (fun x1 tx1 => ?_)
      have b2 : IV x1 0 3072 := ⟨by omega, by omega⟩
      refine m_bipush (v := 6) C dL_law_21 (by decide) ?_
      refine m_isub C dL_law_23 ?_
      refine m_topi (fun x3 ex3 => ?_)
      have tx3 : x3.toInt = x1.toInt - 6 := by rw [ex3, ti_subv b2 kc_6 (by decide), kt_6]
      have b4 : IV x3 (-6) 3066 := by rw [ex3]; exact iv_sub b2 kc_6 (by decide)
      refine m_icmp_gt (tgt := 1034) C dL_law_24 (by decide) (fun c5 => ?_) (fun c5 => ?_)
      · have f6 : x3.toInt < y3.toInt := by
          have q : _ := c5
          simp only [ti_nle, ti_nlt, ti_le, ti_lt, ti_eq, ti_ne, Classical.not_not] at q
          omega
        refine m_iconst (v := 1) C dL_law_1034 (by decide) ?_
        exact m_law1 C hG0 hr hlk ⟨by omega, by omega⟩ dL_law_1035
      · have f7 : y3.toInt ≤ x3.toInt := by
          have q : _ := c5
          simp only [ti_nle, ti_nlt, ti_le, ti_lt, ti_eq, ti_ne, Classical.not_not] at q
          omega
        have b8 : IV y3 0 3066 := ⟨by have q1 := b_y3; have q2 := b4; omega, by have q1 := b_y3; have q2 := b4; omega⟩
        have b9 : IV x3 0 3066 := ⟨by have q1 := b_y3; have q2 := b4; omega, by have q1 := b_y3; have q2 := b4; omega⟩
        refine m_aload_n C dL_law_27 rfl rfl ?_
        refine m_iload_n C dL_law_28 rfl rfl ?_
        refine m_sld C hX hbl hbA ⟨by omega, by omega⟩ dL_law_29 ?_
        refine m_topi (fun x10 ex10 => ?_)
        refine m_bipush (v := 31) C dL_law_30 (by decide) ?_
        refine m_iand C dL_law_32 ?_
        refine m_topi (fun x11 ex11 => ?_)
        have b12 : IV x11 0 31 := by rw [ex11]; exact iv_and_r kc_31 (by decide)
        by_cases s13 : x11.toInt < 0 ∨ 29 < x11.toInt
        · refine m_tableOut (tgt := 1028) C dL_law_33 s13 (by decide) ?_
          obtain ⟨x14, ex14⟩ : ∃ y : Int32, y = y3 + 6 := ⟨_, rfl⟩
          have tx14 : x14.toInt = y3.toInt + 6 := by rw [ex14, ti_addv b8 kc_6 (by decide), kt_6]
          have b15 : IV x14 6 3072 := by rw [ex14]; exact iv_add b8 kc_6 (by decide)
          refine m_iinc (v := x14) (L1 := [some (.ref b), some (.ref (G.1 0 0)), some (.ref (G.1 22 0)), some (.int x14)]) C dL_law_1028 rfl (by rw [ex14]; rfl) (by decide) rfl rfl ?_
          refine m_goto (tgt := 18) C dL_law_1031 (by decide) ?_
          refine m_widen (c2 := 250 + 8 * x14.toInt.toNat) (s2 := 5300 + 24 * x14.toInt.toNat) (by omega) (by omega) ?_
          exact ih18 τ x14 iτ rτ (iv_wk b15 (by decide)) (by have q := hm18; omega)
        by_cases s16 : x11.toInt = 0
        · refine m_tableIn (tgt := 168) (off := 135) C dL_law_33 (by omega) (by omega) (by rw [s16]; rfl) (by decide) ?_
          have b17 : IV x11 0 0 := ⟨by omega, by omega⟩
          refine m_aload_n C dL_law_168 rfl rfl ?_
          refine m_aload_n C dL_law_169 rfl rfl ?_
          refine m_iload_n C dL_law_170 rfl rfl ?_
          refine m_iconst (v := 1) C dL_law_171 (by decide) ?_
          refine m_iadd C dL_law_172 ?_
          refine m_topi (fun x18 ex18 => ?_)
          have tx18 : x18.toInt = y3.toInt + 1 := by rw [ex18, ti_addv b8 kc_1 (by decide), kt_1]
          have b19 : IV x18 1 3067 := by rw [ex18]; exact iv_add b8 kc_1 (by decide)
          refine m_sld C hX hbl hbA ⟨by omega, by omega⟩ dL_law_173 ?_
          refine m_topi (fun x20 ex20 => ?_)
          refine m_aload_n C dL_law_174 rfl rfl ?_
          refine m_iload_n C dL_law_175 rfl rfl ?_
          refine m_iconst (v := 2) C dL_law_176 (by decide) ?_
          refine m_iadd C dL_law_177 ?_
          refine m_topi (fun x21 ex21 => ?_)
          have tx21 : x21.toInt = y3.toInt + 2 := by rw [ex21, ti_addv b8 kc_2 (by decide), kt_2]
          have b22 : IV x21 2 3068 := by rw [ex21]; exact iv_add b8 kc_2 (by decide)
          refine m_sld C hX hbl hbA ⟨by omega, by omega⟩ dL_law_178 ?_
          refine m_topi (fun x23 ex23 => ?_)
          refine m_aload_n C dL_law_179 rfl rfl ?_
          refine m_iload_n C dL_law_180 rfl rfl ?_
          refine m_iconst (v := 3) C dL_law_181 (by decide) ?_
          refine m_iadd C dL_law_182 ?_
          refine m_topi (fun x24 ex24 => ?_)
          have tx24 : x24.toInt = y3.toInt + 3 := by rw [ex24, ti_addv b8 kc_3 (by decide), kt_3]
          have b25 : IV x24 3 3069 := by rw [ex24]; exact iv_add b8 kc_3 (by decide)
          refine m_sld C hX hbl hbA ⟨by omega, by omega⟩ dL_law_183 ?_
          refine m_topi (fun x26 ex26 => ?_)
          refine m_callV (n := 3) (ci := 10) (st := []) C (c_X11_rowE l G τ (x20) (x23) (x26) iτ ) (by decide) (by decide) rfl rfl rfl q1_229 q1_226 q1_227 q1_228 q1_1 (by decide +kernel) rfl (by decide) ⟨by show (250 + 8 * y3.toInt.toNat) + 0 ≤ 600000; omega, by show (5300 + 24 * y3.toInt.toNat) + 0 ≤ 7302250; omega⟩ rfl (Nat.le_of_ble_eq_true rfl) dL_law_184 ?_
          rintro _ τ27 ⟨x30, rfl, i28, f29, b31, h33⟩
          have z34 := Hid.mk h33
          clear h33
          show MW p l e _ s m _ below meth c _ 4 G (250 + 8 * y3.toInt.toNat) (5300 + 24 * y3.toInt.toNat) 187 [some (.ref b), some (.ref (G.1 0 0)), some (.ref (G.1 22 0)), some (.int y3)] [.int x30] τ27
          refine m_pop C dL_law_187 rfl ?_
          refine m_aload_n C dL_law_188 rfl rfl ?_
          refine m_aload_n C dL_law_189 rfl rfl ?_
          refine m_iload_n C dL_law_190 rfl rfl ?_
          refine m_iconst (v := 1) C dL_law_191 (by decide) ?_
          refine m_iadd C dL_law_192 ?_
          refine m_topi (fun x35 ex35 => ?_)
          have tx35 : x35.toInt = y3.toInt + 1 := by rw [ex35, ti_addv b8 kc_1 (by decide), kt_1]
          have b36 : IV x35 1 3067 := by rw [ex35]; exact iv_add b8 kc_1 (by decide)
          refine m_sld C hX hbl hbA ⟨by omega, by omega⟩ dL_law_193 ?_
          refine m_eqs (w := x20) (by rw [ex20, show x35.toInt.toNat = x18.toInt.toNat by omega]) ?_
          refine m_aload_n C dL_law_194 rfl rfl ?_
          refine m_iload_n C dL_law_195 rfl rfl ?_
          refine m_iconst (v := 2) C dL_law_196 (by decide) ?_
          refine m_iadd C dL_law_197 ?_
          refine m_topi (fun x37 ex37 => ?_)
          have tx37 : x37.toInt = y3.toInt + 2 := by rw [ex37, ti_addv b8 kc_2 (by decide), kt_2]
          have b38 : IV x37 2 3068 := by rw [ex37]; exact iv_add b8 kc_2 (by decide)
          refine m_sld C hX hbl hbA ⟨by omega, by omega⟩ dL_law_198 ?_
          refine m_eqs (w := x23) (by rw [ex23, show x37.toInt.toNat = x21.toInt.toNat by omega]) ?_
          refine m_aload_n C dL_law_199 rfl rfl ?_
          refine m_iload_n C dL_law_200 rfl rfl ?_
          refine m_iconst (v := 3) C dL_law_201 (by decide) ?_
          refine m_iadd C dL_law_202 ?_
          refine m_topi (fun x39 ex39 => ?_)
          have tx39 : x39.toInt = y3.toInt + 3 := by rw [ex39, ti_addv b8 kc_3 (by decide), kt_3]
          have b40 : IV x39 3 3069 := by rw [ex39]; exact iv_add b8 kc_3 (by decide)
          refine m_sld C hX hbl hbA ⟨by omega, by omega⟩ dL_law_203 ?_
          refine m_eqs (w := x26) (by rw [ex26, show x39.toInt.toNat = x24.toInt.toNat by omega]) ?_
          refine m_callV (n := 3) (ci := 11) (st := []) C (c_X12_rowE l G τ27 (x20) (x23) (x26) i28 ) (by decide) (by decide) rfl rfl rfl q4_183 q4_180 q4_181 q4_182 q1_7 (by decide +kernel) rfl (by decide) ⟨by show (250 + 8 * y3.toInt.toNat) + 0 ≤ 600000; omega, by show (5300 + 24 * y3.toInt.toNat) + 0 ≤ 7302250; omega⟩ rfl (Nat.le_of_ble_eq_true rfl) dL_law_204 ?_
          rintro _ τ41 ⟨x44, rfl, i42, f43, b45, h47⟩
          have g48 := Rel.rowB rτ f29 f43 z34 h47
          clear h47 z34
          have r49 : Rel τ41 := g48.1
          have q50 := g48.2
          show MW p l e _ s m _ below meth c _ 4 G (250 + 8 * y3.toInt.toNat) (5300 + 24 * y3.toInt.toNat) 207 [some (.ref b), some (.ref (G.1 0 0)), some (.ref (G.1 22 0)), some (.int y3)] [.int x44] τ41
          refine m_pop C dL_law_207 rfl ?_
          refine m_goto (tgt := 1028) C dL_law_208 (by decide) ?_
          obtain ⟨x51, ex51⟩ : ∃ y : Int32, y = y3 + 6 := ⟨_, rfl⟩
          have tx51 : x51.toInt = y3.toInt + 6 := by rw [ex51, ti_addv b8 kc_6 (by decide), kt_6]
          have b52 : IV x51 6 3072 := by rw [ex51]; exact iv_add b8 kc_6 (by decide)
          refine m_iinc (v := x51) (L1 := [some (.ref b), some (.ref (G.1 0 0)), some (.ref (G.1 22 0)), some (.int x51)]) C dL_law_1028 rfl (by rw [ex51]; rfl) (by decide) rfl rfl ?_
          refine m_goto (tgt := 18) C dL_law_1031 (by decide) ?_
          refine m_widen (c2 := 250 + 8 * x51.toInt.toNat) (s2 := 5300 + 24 * x51.toInt.toNat) (by omega) (by omega) ?_
          exact ih18 τ41 x51 i42 r49 (iv_wk b52 (by decide)) (by have q := hm18; omega)
        by_cases s53 : x11.toInt = 1
        · refine m_tableIn (tgt := 211) (off := 178) C dL_law_33 (by omega) (by omega) (by rw [s53]; rfl) (by decide) ?_
          have b54 : IV x11 1 1 := ⟨by omega, by omega⟩
          refine m_aload_n C dL_law_211 rfl rfl ?_
          refine m_aload_n C dL_law_212 rfl rfl ?_
          refine m_iload_n C dL_law_213 rfl rfl ?_
          refine m_iconst (v := 1) C dL_law_214 (by decide) ?_
          refine m_iadd C dL_law_215 ?_
          refine m_topi (fun x55 ex55 => ?_)
          have tx55 : x55.toInt = y3.toInt + 1 := by rw [ex55, ti_addv b8 kc_1 (by decide), kt_1]
          have b56 : IV x55 1 3067 := by rw [ex55]; exact iv_add b8 kc_1 (by decide)
          refine m_sld C hX hbl hbA ⟨by omega, by omega⟩ dL_law_216 ?_
          refine m_topi (fun x57 ex57 => ?_)
          refine m_aload_n C dL_law_217 rfl rfl ?_
          refine m_iload_n C dL_law_218 rfl rfl ?_
          refine m_iconst (v := 2) C dL_law_219 (by decide) ?_
          refine m_iadd C dL_law_220 ?_
          refine m_topi (fun x58 ex58 => ?_)
          have tx58 : x58.toInt = y3.toInt + 2 := by rw [ex58, ti_addv b8 kc_2 (by decide), kt_2]
          have b59 : IV x58 2 3068 := by rw [ex58]; exact iv_add b8 kc_2 (by decide)
          refine m_sld C hX hbl hbA ⟨by omega, by omega⟩ dL_law_221 ?_
          refine m_topi (fun x60 ex60 => ?_)
          refine m_aload_n C dL_law_222 rfl rfl ?_
          refine m_iload_n C dL_law_223 rfl rfl ?_
          refine m_iconst (v := 3) C dL_law_224 (by decide) ?_
          refine m_iadd C dL_law_225 ?_
          refine m_topi (fun x61 ex61 => ?_)
          have tx61 : x61.toInt = y3.toInt + 3 := by rw [ex61, ti_addv b8 kc_3 (by decide), kt_3]
          have b62 : IV x61 3 3069 := by rw [ex61]; exact iv_add b8 kc_3 (by decide)
          refine m_sld C hX hbl hbA ⟨by omega, by omega⟩ dL_law_226 ?_
          refine m_topi (fun x63 ex63 => ?_)
          refine m_callV (n := 3) (ci := 10) (st := []) C (c_X11_setE l G τ (x57) (x60) (x63) iτ ) (by decide) (by decide) rfl rfl rfl q2_11 q2_8 q2_9 q2_10 q1_1 (by decide +kernel) rfl (by decide) ⟨by show (250 + 8 * y3.toInt.toNat) + 0 ≤ 600000; omega, by show (5300 + 24 * y3.toInt.toNat) + 0 ≤ 7302250; omega⟩ rfl (Nat.le_of_ble_eq_true rfl) dL_law_227 ?_
          rintro _ τ64 ⟨x67, rfl, i65, f66, b68, h70⟩
          have z71 := Hid.mk h70
          clear h70
          have r72 : Rel τ64 := rτ.call f66 (by decide) (by decide)
          show MW p l e _ s m _ below meth c _ 4 G (250 + 8 * y3.toInt.toNat) (5300 + 24 * y3.toInt.toNat) 230 [some (.ref b), some (.ref (G.1 0 0)), some (.ref (G.1 22 0)), some (.int y3)] [.int x67] τ64
          refine m_pop C dL_law_230 rfl ?_
          refine m_aload_n C dL_law_231 rfl rfl ?_
          refine m_aload_n C dL_law_232 rfl rfl ?_
          refine m_iload_n C dL_law_233 rfl rfl ?_
          refine m_iconst (v := 1) C dL_law_234 (by decide) ?_
          refine m_iadd C dL_law_235 ?_
          refine m_topi (fun x73 ex73 => ?_)
          have tx73 : x73.toInt = y3.toInt + 1 := by rw [ex73, ti_addv b8 kc_1 (by decide), kt_1]
          have b74 : IV x73 1 3067 := by rw [ex73]; exact iv_add b8 kc_1 (by decide)
          refine m_sld C hX hbl hbA ⟨by omega, by omega⟩ dL_law_236 ?_
          refine m_eqs (w := x57) (by rw [ex57, show x73.toInt.toNat = x55.toInt.toNat by omega]) ?_
          refine m_aload_n C dL_law_237 rfl rfl ?_
          refine m_iload_n C dL_law_238 rfl rfl ?_
          refine m_iconst (v := 2) C dL_law_239 (by decide) ?_
          refine m_iadd C dL_law_240 ?_
          refine m_topi (fun x75 ex75 => ?_)
          have tx75 : x75.toInt = y3.toInt + 2 := by rw [ex75, ti_addv b8 kc_2 (by decide), kt_2]
          have b76 : IV x75 2 3068 := by rw [ex75]; exact iv_add b8 kc_2 (by decide)
          refine m_sld C hX hbl hbA ⟨by omega, by omega⟩ dL_law_241 ?_
          refine m_eqs (w := x60) (by rw [ex60, show x75.toInt.toNat = x58.toInt.toNat by omega]) ?_
          refine m_aload_n C dL_law_242 rfl rfl ?_
          refine m_iload_n C dL_law_243 rfl rfl ?_
          refine m_iconst (v := 3) C dL_law_244 (by decide) ?_
          refine m_iadd C dL_law_245 ?_
          refine m_topi (fun x77 ex77 => ?_)
          have tx77 : x77.toInt = y3.toInt + 3 := by rw [ex77, ti_addv b8 kc_3 (by decide), kt_3]
          have b78 : IV x77 3 3069 := by rw [ex77]; exact iv_add b8 kc_3 (by decide)
          refine m_sld C hX hbl hbA ⟨by omega, by omega⟩ dL_law_246 ?_
          refine m_eqs (w := x63) (by rw [ex63, show x77.toInt.toNat = x61.toInt.toNat by omega]) ?_
          refine m_callV (n := 3) (ci := 11) (st := []) C (c_X12_setE l G τ64 (x57) (x60) (x63) i65 ) (by decide) (by decide) rfl rfl rfl q4_205 q4_202 q4_203 q4_204 q1_7 (by decide +kernel) rfl (by decide) ⟨by show (250 + 8 * y3.toInt.toNat) + 0 ≤ 600000; omega, by show (5300 + 24 * y3.toInt.toNat) + 0 ≤ 7302250; omega⟩ rfl (Nat.le_of_ble_eq_true rfl) dL_law_247 ?_
          rintro _ τ79 ⟨x82, rfl, i80, f81, b83, h85⟩
          have g86 := Rel.setB rτ f66 f81 z71 h85
          clear h85 z71
          have r87 : Rel τ79 := r72.call f81 (by decide) (by decide)
          show MW p l e _ s m _ below meth c _ 4 G (250 + 8 * y3.toInt.toNat) (5300 + 24 * y3.toInt.toNat) 250 [some (.ref b), some (.ref (G.1 0 0)), some (.ref (G.1 22 0)), some (.int y3)] [.int x82] τ79
          refine m_pop C dL_law_250 rfl ?_
          refine m_goto (tgt := 1028) C dL_law_251 (by decide) ?_
          obtain ⟨x88, ex88⟩ : ∃ y : Int32, y = y3 + 6 := ⟨_, rfl⟩
          have tx88 : x88.toInt = y3.toInt + 6 := by rw [ex88, ti_addv b8 kc_6 (by decide), kt_6]
          have b89 : IV x88 6 3072 := by rw [ex88]; exact iv_add b8 kc_6 (by decide)
          refine m_iinc (v := x88) (L1 := [some (.ref b), some (.ref (G.1 0 0)), some (.ref (G.1 22 0)), some (.int x88)]) C dL_law_1028 rfl (by rw [ex88]; rfl) (by decide) rfl rfl ?_
          refine m_goto (tgt := 18) C dL_law_1031 (by decide) ?_
          refine m_widen (c2 := 250 + 8 * x88.toInt.toNat) (s2 := 5300 + 24 * x88.toInt.toNat) (by omega) (by omega) ?_
          exact ih18 τ79 x88 i80 r87 (iv_wk b89 (by decide)) (by have q := hm18; omega)
        by_cases s90 : x11.toInt = 2
        · refine m_tableIn (tgt := 254) (off := 221) C dL_law_33 (by omega) (by omega) (by rw [s90]; rfl) (by decide) ?_
          have b91 : IV x11 2 2 := ⟨by omega, by omega⟩
          refine m_aload_n C dL_law_254 rfl rfl ?_
          refine m_aload_n C dL_law_255 rfl rfl ?_
          refine m_iload_n C dL_law_256 rfl rfl ?_
          refine m_iconst (v := 1) C dL_law_257 (by decide) ?_
          refine m_iadd C dL_law_258 ?_
          refine m_topi (fun x92 ex92 => ?_)
          have tx92 : x92.toInt = y3.toInt + 1 := by rw [ex92, ti_addv b8 kc_1 (by decide), kt_1]
          have b93 : IV x92 1 3067 := by rw [ex92]; exact iv_add b8 kc_1 (by decide)
          refine m_sld C hX hbl hbA ⟨by omega, by omega⟩ dL_law_259 ?_
          refine m_topi (fun x94 ex94 => ?_)
          refine m_aload_n C dL_law_260 rfl rfl ?_
          refine m_iload_n C dL_law_261 rfl rfl ?_
          refine m_iconst (v := 2) C dL_law_262 (by decide) ?_
          refine m_iadd C dL_law_263 ?_
          refine m_topi (fun x95 ex95 => ?_)
          have tx95 : x95.toInt = y3.toInt + 2 := by rw [ex95, ti_addv b8 kc_2 (by decide), kt_2]
          have b96 : IV x95 2 3068 := by rw [ex95]; exact iv_add b8 kc_2 (by decide)
          refine m_sld C hX hbl hbA ⟨by omega, by omega⟩ dL_law_264 ?_
          refine m_topi (fun x97 ex97 => ?_)
          refine m_aload_n C dL_law_265 rfl rfl ?_
          refine m_iload_n C dL_law_266 rfl rfl ?_
          refine m_iconst (v := 3) C dL_law_267 (by decide) ?_
          refine m_iadd C dL_law_268 ?_
          refine m_topi (fun x98 ex98 => ?_)
          have tx98 : x98.toInt = y3.toInt + 3 := by rw [ex98, ti_addv b8 kc_3 (by decide), kt_3]
          have b99 : IV x98 3 3069 := by rw [ex98]; exact iv_add b8 kc_3 (by decide)
          refine m_sld C hX hbl hbA ⟨by omega, by omega⟩ dL_law_269 ?_
          refine m_topi (fun x100 ex100 => ?_)
          refine m_aload_n C dL_law_270 rfl rfl ?_
          refine m_iload_n C dL_law_271 rfl rfl ?_
          refine m_iconst (v := 4) C dL_law_272 (by decide) ?_
          refine m_iadd C dL_law_273 ?_
          refine m_topi (fun x101 ex101 => ?_)
          have tx101 : x101.toInt = y3.toInt + 4 := by rw [ex101, ti_addv b8 kc_4 (by decide), kt_4]
          have b102 : IV x101 4 3070 := by rw [ex101]; exact iv_add b8 kc_4 (by decide)
          refine m_sld C hX hbl hbA ⟨by omega, by omega⟩ dL_law_274 ?_
          refine m_topi (fun x103 ex103 => ?_)
          refine m_aload_n C dL_law_275 rfl rfl ?_
          refine m_iload_n C dL_law_276 rfl rfl ?_
          refine m_iconst (v := 5) C dL_law_277 (by decide) ?_
          refine m_iadd C dL_law_278 ?_
          refine m_topi (fun x104 ex104 => ?_)
          have tx104 : x104.toInt = y3.toInt + 5 := by rw [ex104, ti_addv b8 kc_5 (by decide), kt_5]
          have b105 : IV x104 5 3071 := by rw [ex104]; exact iv_add b8 kc_5 (by decide)
          refine m_sld C hX hbl hbA ⟨by omega, by omega⟩ dL_law_279 ?_
          refine m_topi (fun x106 ex106 => ?_)
          refine m_callV (n := 5) (ci := 10) (st := []) C (c_X11_copyE l G τ (x94) (x97) (x100) (x103) (x106) iτ ) (by decide) (by decide) rfl rfl rfl q2_23 q2_20 q2_21 q2_22 q1_1 (by decide +kernel) rfl (by decide) ⟨by show (250 + 8 * y3.toInt.toNat) + 0 ≤ 600000; omega, by show (5300 + 24 * y3.toInt.toNat) + 0 ≤ 7302250; omega⟩ rfl (Nat.le_of_ble_eq_true rfl) dL_law_280 ?_
          rintro _ τ107 ⟨x110, rfl, i108, f109, b111, h113⟩
          have z114 := Hid.mk h113
          clear h113
          have r115 : Rel τ107 := rτ.call f109 (by decide) (by decide)
          show MW p l e _ s m _ below meth c _ 4 G (250 + 8 * y3.toInt.toNat) (5300 + 24 * y3.toInt.toNat) 283 [some (.ref b), some (.ref (G.1 0 0)), some (.ref (G.1 22 0)), some (.int y3)] [.int x110] τ107
          refine m_aload_n C dL_law_283 rfl rfl ?_
          refine m_aload_n C dL_law_284 rfl rfl ?_
          refine m_iload_n C dL_law_285 rfl rfl ?_
          refine m_iconst (v := 1) C dL_law_286 (by decide) ?_
          refine m_iadd C dL_law_287 ?_
          refine m_topi (fun x116 ex116 => ?_)
          have tx116 : x116.toInt = y3.toInt + 1 := by rw [ex116, ti_addv b8 kc_1 (by decide), kt_1]
          have b117 : IV x116 1 3067 := by rw [ex116]; exact iv_add b8 kc_1 (by decide)
          refine m_sld C hX hbl hbA ⟨by omega, by omega⟩ dL_law_288 ?_
          refine m_eqs (w := x94) (by rw [ex94, show x116.toInt.toNat = x92.toInt.toNat by omega]) ?_
          refine m_aload_n C dL_law_289 rfl rfl ?_
          refine m_iload_n C dL_law_290 rfl rfl ?_
          refine m_iconst (v := 2) C dL_law_291 (by decide) ?_
          refine m_iadd C dL_law_292 ?_
          refine m_topi (fun x118 ex118 => ?_)
          have tx118 : x118.toInt = y3.toInt + 2 := by rw [ex118, ti_addv b8 kc_2 (by decide), kt_2]
          have b119 : IV x118 2 3068 := by rw [ex118]; exact iv_add b8 kc_2 (by decide)
          refine m_sld C hX hbl hbA ⟨by omega, by omega⟩ dL_law_293 ?_
          refine m_eqs (w := x97) (by rw [ex97, show x118.toInt.toNat = x95.toInt.toNat by omega]) ?_
          refine m_aload_n C dL_law_294 rfl rfl ?_
          refine m_iload_n C dL_law_295 rfl rfl ?_
          refine m_iconst (v := 3) C dL_law_296 (by decide) ?_
          refine m_iadd C dL_law_297 ?_
          refine m_topi (fun x120 ex120 => ?_)
          have tx120 : x120.toInt = y3.toInt + 3 := by rw [ex120, ti_addv b8 kc_3 (by decide), kt_3]
          have b121 : IV x120 3 3069 := by rw [ex120]; exact iv_add b8 kc_3 (by decide)
          refine m_sld C hX hbl hbA ⟨by omega, by omega⟩ dL_law_298 ?_
          refine m_eqs (w := x100) (by rw [ex100, show x120.toInt.toNat = x98.toInt.toNat by omega]) ?_
          refine m_aload_n C dL_law_299 rfl rfl ?_
          refine m_iload_n C dL_law_300 rfl rfl ?_
          refine m_iconst (v := 4) C dL_law_301 (by decide) ?_
          refine m_iadd C dL_law_302 ?_
          refine m_topi (fun x122 ex122 => ?_)
          have tx122 : x122.toInt = y3.toInt + 4 := by rw [ex122, ti_addv b8 kc_4 (by decide), kt_4]
          have b123 : IV x122 4 3070 := by rw [ex122]; exact iv_add b8 kc_4 (by decide)
          refine m_sld C hX hbl hbA ⟨by omega, by omega⟩ dL_law_303 ?_
          refine m_eqs (w := x103) (by rw [ex103, show x122.toInt.toNat = x101.toInt.toNat by omega]) ?_
          refine m_aload_n C dL_law_304 rfl rfl ?_
          refine m_iload_n C dL_law_305 rfl rfl ?_
          refine m_iconst (v := 5) C dL_law_306 (by decide) ?_
          refine m_iadd C dL_law_307 ?_
          refine m_topi (fun x124 ex124 => ?_)
          have tx124 : x124.toInt = y3.toInt + 5 := by rw [ex124, ti_addv b8 kc_5 (by decide), kt_5]
          have b125 : IV x124 5 3071 := by rw [ex124]; exact iv_add b8 kc_5 (by decide)
          refine m_sld C hX hbl hbA ⟨by omega, by omega⟩ dL_law_308 ?_
          refine m_eqs (w := x106) (by rw [ex106, show x124.toInt.toNat = x104.toInt.toNat by omega]) ?_
          refine m_callV (n := 5) (ci := 11) (st := [.int x110]) C (c_X12_copyE l G τ107 (x94) (x97) (x100) (x103) (x106) i108 ) (by decide) (by decide) rfl rfl rfl q4_212 q4_209 q4_210 q4_211 q1_7 (by decide +kernel) rfl (by decide) ⟨by show (250 + 8 * y3.toInt.toNat) + 0 ≤ 600000; omega, by show (5300 + 24 * y3.toInt.toNat) + 0 ≤ 7302250; omega⟩ rfl (Nat.le_of_ble_eq_true rfl) dL_law_309 ?_
          rintro _ τ126 ⟨x129, rfl, i127, f128, b130, h132⟩
          have g133 := Rel.copyB rτ f109 f128 z114 h132
          clear h132 z114
          have r134 : Rel τ126 := r115.call f128 (by decide) (by decide)
          show MW p l e _ s m _ below meth c _ 4 G (250 + 8 * y3.toInt.toNat) (5300 + 24 * y3.toInt.toNat) 312 [some (.ref b), some (.ref (G.1 0 0)), some (.ref (G.1 22 0)), some (.int y3)] [.int x129, .int x110] τ126
          refine m_icmp_eq (tgt := 1028) C dL_law_312 (by decide) (fun c135 => ?_) (fun c135 => ?_)
          · have f136 : x110.toInt = x129.toInt := by
              have q : _ := c135
              simp only [ti_nle, ti_nlt, ti_le, ti_lt, ti_eq, ti_ne, Classical.not_not] at q
              omega
            obtain ⟨x137, ex137⟩ : ∃ y : Int32, y = y3 + 6 := ⟨_, rfl⟩
            have tx137 : x137.toInt = y3.toInt + 6 := by rw [ex137, ti_addv b8 kc_6 (by decide), kt_6]
            have b138 : IV x137 6 3072 := by rw [ex137]; exact iv_add b8 kc_6 (by decide)
            refine m_iinc (v := x137) (L1 := [some (.ref b), some (.ref (G.1 0 0)), some (.ref (G.1 22 0)), some (.int x137)]) C dL_law_1028 rfl (by rw [ex137]; rfl) (by decide) rfl rfl ?_
            refine m_goto (tgt := 18) C dL_law_1031 (by decide) ?_
            refine m_widen (c2 := 250 + 8 * x137.toInt.toNat) (s2 := 5300 + 24 * x137.toInt.toNat) (by omega) (by omega) ?_
            exact ih18 τ126 x137 i127 r134 (iv_wk b138 (by decide)) (by have q := hm18; omega)
          · have f139 : x110.toInt ≠ x129.toInt := by
              have q : _ := c135
              simp only [ti_nle, ti_nlt, ti_le, ti_lt, ti_eq, ti_ne, Classical.not_not] at q
              omega
            exfalso
            omega
        by_cases s140 : x11.toInt = 3
        · refine m_tableIn (tgt := 317) (off := 284) C dL_law_33 (by omega) (by omega) (by rw [s140]; rfl) (by decide) ?_
          have b141 : IV x11 3 3 := ⟨by omega, by omega⟩
          refine m_aload_n C dL_law_317 rfl rfl ?_
          refine m_aload_n C dL_law_318 rfl rfl ?_
          refine m_iload_n C dL_law_319 rfl rfl ?_
          refine m_iconst (v := 1) C dL_law_320 (by decide) ?_
          refine m_iadd C dL_law_321 ?_
          refine m_topi (fun x142 ex142 => ?_)
          have tx142 : x142.toInt = y3.toInt + 1 := by rw [ex142, ti_addv b8 kc_1 (by decide), kt_1]
          have b143 : IV x142 1 3067 := by rw [ex142]; exact iv_add b8 kc_1 (by decide)
          refine m_sld C hX hbl hbA ⟨by omega, by omega⟩ dL_law_322 ?_
          refine m_topi (fun x144 ex144 => ?_)
          refine m_callV (n := 1) (ci := 10) (st := []) C (c_X11_dropE l G τ (x144) iτ ) (by decide) (by decide) rfl rfl rfl q2_34 q2_31 q2_32 q2_33 q1_1 (by decide +kernel) rfl (by decide) ⟨by show (250 + 8 * y3.toInt.toNat) + 0 ≤ 600000; omega, by show (5300 + 24 * y3.toInt.toNat) + 0 ≤ 7302250; omega⟩ rfl (Nat.le_of_ble_eq_true rfl) dL_law_323 ?_
          rintro _ τ145 ⟨x148, rfl, i146, f147, b149, h151⟩
          have z152 := Hid.mk h151
          clear h151
          show MW p l e _ s m _ below meth c _ 4 G (250 + 8 * y3.toInt.toNat) (5300 + 24 * y3.toInt.toNat) 326 [some (.ref b), some (.ref (G.1 0 0)), some (.ref (G.1 22 0)), some (.int y3)] [.int x148] τ145
          refine m_pop C dL_law_326 rfl ?_
          refine m_aload_n C dL_law_327 rfl rfl ?_
          refine m_aload_n C dL_law_328 rfl rfl ?_
          refine m_iload_n C dL_law_329 rfl rfl ?_
          refine m_iconst (v := 1) C dL_law_330 (by decide) ?_
          refine m_iadd C dL_law_331 ?_
          refine m_topi (fun x153 ex153 => ?_)
          have tx153 : x153.toInt = y3.toInt + 1 := by rw [ex153, ti_addv b8 kc_1 (by decide), kt_1]
          have b154 : IV x153 1 3067 := by rw [ex153]; exact iv_add b8 kc_1 (by decide)
          refine m_sld C hX hbl hbA ⟨by omega, by omega⟩ dL_law_332 ?_
          refine m_eqs (w := x144) (by rw [ex144, show x153.toInt.toNat = x142.toInt.toNat by omega]) ?_
          refine m_callV (n := 1) (ci := 11) (st := []) C (c_X12_dropE l G τ145 (x144) i146 ) (by decide) (by decide) rfl rfl rfl q4_216 q4_213 q4_214 q4_215 q1_7 (by decide +kernel) rfl (by decide) ⟨by show (250 + 8 * y3.toInt.toNat) + 0 ≤ 600000; omega, by show (5300 + 24 * y3.toInt.toNat) + 0 ≤ 7302250; omega⟩ rfl (Nat.le_of_ble_eq_true rfl) dL_law_333 ?_
          rintro _ τ155 ⟨x158, rfl, i156, f157, b159, h161⟩
          have g162 := Rel.dropB rτ f147 f157 z152 h161
          clear h161 z152
          have r163 : Rel τ155 := g162.1
          have q164 := g162.2
          show MW p l e _ s m _ below meth c _ 4 G (250 + 8 * y3.toInt.toNat) (5300 + 24 * y3.toInt.toNat) 336 [some (.ref b), some (.ref (G.1 0 0)), some (.ref (G.1 22 0)), some (.int y3)] [.int x158] τ155
          refine m_pop C dL_law_336 rfl ?_
          refine m_goto (tgt := 1028) C dL_law_337 (by decide) ?_
          obtain ⟨x165, ex165⟩ : ∃ y : Int32, y = y3 + 6 := ⟨_, rfl⟩
          have tx165 : x165.toInt = y3.toInt + 6 := by rw [ex165, ti_addv b8 kc_6 (by decide), kt_6]
          have b166 : IV x165 6 3072 := by rw [ex165]; exact iv_add b8 kc_6 (by decide)
          refine m_iinc (v := x165) (L1 := [some (.ref b), some (.ref (G.1 0 0)), some (.ref (G.1 22 0)), some (.int x165)]) C dL_law_1028 rfl (by rw [ex165]; rfl) (by decide) rfl rfl ?_
          refine m_goto (tgt := 18) C dL_law_1031 (by decide) ?_
          refine m_widen (c2 := 250 + 8 * x165.toInt.toNat) (s2 := 5300 + 24 * x165.toInt.toNat) (by omega) (by omega) ?_
          exact ih18 τ155 x165 i156 r163 (iv_wk b166 (by decide)) (by have q := hm18; omega)
        by_cases s167 : x11.toInt = 4
        · refine m_tableIn (tgt := 340) (off := 307) C dL_law_33 (by omega) (by omega) (by rw [s167]; rfl) (by decide) ?_
          have b168 : IV x11 4 4 := ⟨by omega, by omega⟩
          refine m_aload_n C dL_law_340 rfl rfl ?_
          refine m_aload_n C dL_law_341 rfl rfl ?_
          refine m_iload_n C dL_law_342 rfl rfl ?_
          refine m_iconst (v := 1) C dL_law_343 (by decide) ?_
          refine m_iadd C dL_law_344 ?_
          refine m_topi (fun x169 ex169 => ?_)
          have tx169 : x169.toInt = y3.toInt + 1 := by rw [ex169, ti_addv b8 kc_1 (by decide), kt_1]
          have b170 : IV x169 1 3067 := by rw [ex169]; exact iv_add b8 kc_1 (by decide)
          refine m_sld C hX hbl hbA ⟨by omega, by omega⟩ dL_law_345 ?_
          refine m_topi (fun x171 ex171 => ?_)
          refine m_i2l C dL_law_346 ?_
          refine m_bipush (v := 32) C dL_law_347 (by decide) ?_
          refine m_lshl C dL_law_349 ?_
          refine m_topl (fun w172 ew172 => ?_)
          refine m_aload_n C dL_law_350 rfl rfl ?_
          refine m_iload_n C dL_law_351 rfl rfl ?_
          refine m_iconst (v := 2) C dL_law_352 (by decide) ?_
          refine m_iadd C dL_law_353 ?_
          refine m_topi (fun x173 ex173 => ?_)
          have tx173 : x173.toInt = y3.toInt + 2 := by rw [ex173, ti_addv b8 kc_2 (by decide), kt_2]
          have b174 : IV x173 2 3068 := by rw [ex173]; exact iv_add b8 kc_2 (by decide)
          refine m_sld C hX hbl hbA ⟨by omega, by omega⟩ dL_law_354 ?_
          refine m_topi (fun x175 ex175 => ?_)
          refine m_i2l C dL_law_355 ?_
          refine m_ldc2 (v := 4294967295) C dL_law_356 q5_222 ?_
          refine m_land C dL_law_359 ?_
          refine m_topl (fun w176 ew176 => ?_)
          refine m_lor C dL_law_360 ?_
          refine m_topl (fun w177 ew177 => ?_)
          refine m_aload_n C dL_law_361 rfl rfl ?_
          refine m_iload_n C dL_law_362 rfl rfl ?_
          refine m_iconst (v := 3) C dL_law_363 (by decide) ?_
          refine m_iadd C dL_law_364 ?_
          refine m_topi (fun x178 ex178 => ?_)
          have tx178 : x178.toInt = y3.toInt + 3 := by rw [ex178, ti_addv b8 kc_3 (by decide), kt_3]
          have b179 : IV x178 3 3069 := by rw [ex178]; exact iv_add b8 kc_3 (by decide)
          refine m_sld C hX hbl hbA ⟨by omega, by omega⟩ dL_law_365 ?_
          refine m_topi (fun x180 ex180 => ?_)
          refine m_callV (n := 2) (ci := 10) (st := []) C (c_X11_feedE l G τ (w177) (x180) iτ ) (by decide) (by decide) rfl rfl rfl q2_42 q2_39 q2_40 q2_41 q1_1 (by decide +kernel) rfl (by decide) ⟨by show (250 + 8 * y3.toInt.toNat) + 0 ≤ 600000; omega, by show (5300 + 24 * y3.toInt.toNat) + 0 ≤ 7302250; omega⟩ rfl (Nat.le_of_ble_eq_true rfl) dL_law_366 ?_
          rintro _ τ181 ⟨x184, rfl, i182, f183, b185, h187⟩
          have z188 := Hid.mk h187
          clear h187
          show MW p l e _ s m _ below meth c _ 4 G (250 + 8 * y3.toInt.toNat) (5300 + 24 * y3.toInt.toNat) 369 [some (.ref b), some (.ref (G.1 0 0)), some (.ref (G.1 22 0)), some (.int y3)] [.int x184] τ181
          refine m_pop C dL_law_369 rfl ?_
          refine m_aload_n C dL_law_370 rfl rfl ?_
          refine m_aload_n C dL_law_371 rfl rfl ?_
          refine m_iload_n C dL_law_372 rfl rfl ?_
          refine m_iconst (v := 1) C dL_law_373 (by decide) ?_
          refine m_iadd C dL_law_374 ?_
          refine m_topi (fun x189 ex189 => ?_)
          have tx189 : x189.toInt = y3.toInt + 1 := by rw [ex189, ti_addv b8 kc_1 (by decide), kt_1]
          have b190 : IV x189 1 3067 := by rw [ex189]; exact iv_add b8 kc_1 (by decide)
          refine m_sld C hX hbl hbA ⟨by omega, by omega⟩ dL_law_375 ?_
          refine m_eqs (w := x171) (by rw [ex171, show x189.toInt.toNat = x169.toInt.toNat by omega]) ?_
          refine m_i2l C dL_law_376 ?_
          refine m_bipush (v := 32) C dL_law_377 (by decide) ?_
          refine m_lshl C dL_law_379 ?_
          refine m_topl (fun w191 ew191 => ?_)
          refine m_aload_n C dL_law_380 rfl rfl ?_
          refine m_iload_n C dL_law_381 rfl rfl ?_
          refine m_iconst (v := 2) C dL_law_382 (by decide) ?_
          refine m_iadd C dL_law_383 ?_
          refine m_topi (fun x192 ex192 => ?_)
          have tx192 : x192.toInt = y3.toInt + 2 := by rw [ex192, ti_addv b8 kc_2 (by decide), kt_2]
          have b193 : IV x192 2 3068 := by rw [ex192]; exact iv_add b8 kc_2 (by decide)
          refine m_sld C hX hbl hbA ⟨by omega, by omega⟩ dL_law_384 ?_
          refine m_eqs (w := x175) (by rw [ex175, show x192.toInt.toNat = x173.toInt.toNat by omega]) ?_
          refine m_i2l C dL_law_385 ?_
          refine m_ldc2 (v := 4294967295) C dL_law_386 q5_222 ?_
          refine m_land C dL_law_389 ?_
          refine m_topl (fun w194 ew194 => ?_)
          refine m_lor C dL_law_390 ?_
          refine m_topl (fun w195 ew195 => ?_)
          refine m_aload_n C dL_law_391 rfl rfl ?_
          refine m_iload_n C dL_law_392 rfl rfl ?_
          refine m_iconst (v := 3) C dL_law_393 (by decide) ?_
          refine m_iadd C dL_law_394 ?_
          refine m_topi (fun x196 ex196 => ?_)
          have tx196 : x196.toInt = y3.toInt + 3 := by rw [ex196, ti_addv b8 kc_3 (by decide), kt_3]
          have b197 : IV x196 3 3069 := by rw [ex196]; exact iv_add b8 kc_3 (by decide)
          refine m_sld C hX hbl hbA ⟨by omega, by omega⟩ dL_law_395 ?_
          refine m_eqs (w := x180) (by rw [ex180, show x196.toInt.toNat = x178.toInt.toNat by omega]) ?_
          refine m_callV (n := 2) (ci := 11) (st := []) C (c_X12_feedE l G τ181 (w195) (x180) i182 ) (by decide) (by decide) rfl rfl rfl q4_220 q4_217 q4_218 q4_219 q1_7 (by decide +kernel) rfl (by decide) ⟨by show (250 + 8 * y3.toInt.toNat) + 0 ≤ 600000; omega, by show (5300 + 24 * y3.toInt.toNat) + 0 ≤ 7302250; omega⟩ rfl (Nat.le_of_ble_eq_true rfl) dL_law_396 ?_
          rintro _ τ198 ⟨x201, rfl, i199, f200, b202, h204⟩
          have g205 := Rel.feedB rτ f183 f200 z188 h204
          clear h204 z188
          have r206 : Rel τ198 := g205.1
          have q207 := g205.2
          show MW p l e _ s m _ below meth c _ 4 G (250 + 8 * y3.toInt.toNat) (5300 + 24 * y3.toInt.toNat) 399 [some (.ref b), some (.ref (G.1 0 0)), some (.ref (G.1 22 0)), some (.int y3)] [.int x201] τ198
          refine m_pop C dL_law_399 rfl ?_
          refine m_goto (tgt := 1028) C dL_law_400 (by decide) ?_
          obtain ⟨x208, ex208⟩ : ∃ y : Int32, y = y3 + 6 := ⟨_, rfl⟩
          have tx208 : x208.toInt = y3.toInt + 6 := by rw [ex208, ti_addv b8 kc_6 (by decide), kt_6]
          have b209 : IV x208 6 3072 := by rw [ex208]; exact iv_add b8 kc_6 (by decide)
          refine m_iinc (v := x208) (L1 := [some (.ref b), some (.ref (G.1 0 0)), some (.ref (G.1 22 0)), some (.int x208)]) C dL_law_1028 rfl (by rw [ex208]; rfl) (by decide) rfl rfl ?_
          refine m_goto (tgt := 18) C dL_law_1031 (by decide) ?_
          refine m_widen (c2 := 250 + 8 * x208.toInt.toNat) (s2 := 5300 + 24 * x208.toInt.toNat) (by omega) (by omega) ?_
          exact ih18 τ198 x208 i199 r206 (iv_wk b209 (by decide)) (by have q := hm18; omega)
        by_cases s210 : x11.toInt = 5
        · refine m_tableIn (tgt := 403) (off := 370) C dL_law_33 (by omega) (by omega) (by rw [s210]; rfl) (by decide) ?_
          have b211 : IV x11 5 5 := ⟨by omega, by omega⟩
          refine m_aload_n C dL_law_403 rfl rfl ?_
          refine m_callV (n := 0) (ci := 10) (st := []) C (c_X11_towerE l G τ  iτ ) (by decide) (by decide) rfl rfl rfl q2_51 q2_48 q2_49 q2_50 q1_1 (by decide +kernel) rfl (by decide) ⟨by show (250 + 8 * y3.toInt.toNat) + 8 ≤ 600000; omega, by show (5300 + 24 * y3.toInt.toNat) + 24 ≤ 7302250; omega⟩ rfl (Nat.le_of_ble_eq_true rfl) dL_law_404 ?_
          rintro _ τ212 ⟨x215, rfl, i213, f214, b216, h218⟩
          have z219 := Hid.mk h218
          clear h218
          show MW p l e _ s m _ below meth c _ 4 G ((250 + 8 * y3.toInt.toNat) + 8) ((5300 + 24 * y3.toInt.toNat) + 24) 407 [some (.ref b), some (.ref (G.1 0 0)), some (.ref (G.1 22 0)), some (.int y3)] [.int x215] τ212
          refine m_pop C dL_law_407 rfl ?_
          refine m_aload_n C dL_law_408 rfl rfl ?_
          refine m_callV (n := 0) (ci := 11) (st := []) C (c_X12_towerE l G τ212  i213 ) (by decide) (by decide) rfl rfl rfl q4_227 q4_224 q4_225 q4_226 q1_7 (by decide +kernel) rfl (by decide) ⟨by show ((250 + 8 * y3.toInt.toNat) + 8) + 0 ≤ 600000; omega, by show ((5300 + 24 * y3.toInt.toNat) + 24) + 0 ≤ 7302250; omega⟩ rfl (Nat.le_of_ble_eq_true rfl) dL_law_409 ?_
          rintro _ τ220 ⟨x223, rfl, i221, f222, b224, h226⟩
          have g227 := Rel.towerB (a2 := 0) (r1 := 0) (r2 := 0) rτ f214 f222 z219 h226
          clear h226 z219
          have r228 : Rel τ220 := g227
          show MW p l e _ s m _ below meth c _ 4 G ((250 + 8 * y3.toInt.toNat) + 8) ((5300 + 24 * y3.toInt.toNat) + 24) 412 [some (.ref b), some (.ref (G.1 0 0)), some (.ref (G.1 22 0)), some (.int y3)] [.int x223] τ220
          refine m_pop C dL_law_412 rfl ?_
          refine m_goto (tgt := 1028) C dL_law_413 (by decide) ?_
          obtain ⟨x229, ex229⟩ : ∃ y : Int32, y = y3 + 6 := ⟨_, rfl⟩
          have tx229 : x229.toInt = y3.toInt + 6 := by rw [ex229, ti_addv b8 kc_6 (by decide), kt_6]
          have b230 : IV x229 6 3072 := by rw [ex229]; exact iv_add b8 kc_6 (by decide)
          refine m_iinc (v := x229) (L1 := [some (.ref b), some (.ref (G.1 0 0)), some (.ref (G.1 22 0)), some (.int x229)]) C dL_law_1028 rfl (by rw [ex229]; rfl) (by decide) rfl rfl ?_
          refine m_goto (tgt := 18) C dL_law_1031 (by decide) ?_
          refine m_widen (c2 := 250 + 8 * x229.toInt.toNat) (s2 := 5300 + 24 * x229.toInt.toNat) (by omega) (by omega) ?_
          exact ih18 τ220 x229 i221 r228 (iv_wk b230 (by decide)) (by have q := hm18; omega)
        by_cases s231 : x11.toInt = 6
        · refine m_tableIn (tgt := 416) (off := 383) C dL_law_33 (by omega) (by omega) (by rw [s231]; rfl) (by decide) ?_
          have b232 : IV x11 6 6 := ⟨by omega, by omega⟩
          refine m_aload_n C dL_law_416 rfl rfl ?_
          refine m_callV (n := 0) (ci := 10) (st := []) C (c_X11_fault l G τ  iτ ) (by decide) (by decide) rfl rfl rfl q3_13 q3_10 q3_11 q3_12 q1_1 (by decide +kernel) rfl (by decide) ⟨by show (250 + 8 * y3.toInt.toNat) + 0 ≤ 600000; omega, by show (5300 + 24 * y3.toInt.toNat) + 0 ≤ 7302250; omega⟩ rfl (Nat.le_of_ble_eq_true rfl) dL_law_417 ?_
          rintro _ τ233 ⟨x236, rfl, i234, f235, b237⟩
          have r240 : Rel τ233 := rτ.call f235 (by decide) (by decide)
          show MW p l e _ s m _ below meth c _ 4 G (250 + 8 * y3.toInt.toNat) (5300 + 24 * y3.toInt.toNat) 420 [some (.ref b), some (.ref (G.1 0 0)), some (.ref (G.1 22 0)), some (.int y3)] [.int x236] τ233
          refine m_pop C dL_law_420 rfl ?_
          refine m_aload_n C dL_law_421 rfl rfl ?_
          refine m_callV (n := 0) (ci := 11) (st := []) C (c_X12_fault l G τ233  i234 ) (by decide) (by decide) rfl rfl rfl q5_42 q5_39 q5_40 q5_41 q1_7 (by decide +kernel) rfl (by decide) ⟨by show (250 + 8 * y3.toInt.toNat) + 0 ≤ 600000; omega, by show (5300 + 24 * y3.toInt.toNat) + 0 ≤ 7302250; omega⟩ rfl (Nat.le_of_ble_eq_true rfl) dL_law_422 ?_
          rintro _ τ241 ⟨x244, rfl, i242, f243, b245⟩
          have r248 : Rel τ241 := r240.call f243 (by decide) (by decide)
          show MW p l e _ s m _ below meth c _ 4 G (250 + 8 * y3.toInt.toNat) (5300 + 24 * y3.toInt.toNat) 425 [some (.ref b), some (.ref (G.1 0 0)), some (.ref (G.1 22 0)), some (.int y3)] [.int x244] τ241
          refine m_pop C dL_law_425 rfl ?_
          refine m_goto (tgt := 1028) C dL_law_426 (by decide) ?_
          obtain ⟨x249, ex249⟩ : ∃ y : Int32, y = y3 + 6 := ⟨_, rfl⟩
          have tx249 : x249.toInt = y3.toInt + 6 := by rw [ex249, ti_addv b8 kc_6 (by decide), kt_6]
          have b250 : IV x249 6 3072 := by rw [ex249]; exact iv_add b8 kc_6 (by decide)
          refine m_iinc (v := x249) (L1 := [some (.ref b), some (.ref (G.1 0 0)), some (.ref (G.1 22 0)), some (.int x249)]) C dL_law_1028 rfl (by rw [ex249]; rfl) (by decide) rfl rfl ?_
          refine m_goto (tgt := 18) C dL_law_1031 (by decide) ?_
          refine m_widen (c2 := 250 + 8 * x249.toInt.toNat) (s2 := 5300 + 24 * x249.toInt.toNat) (by omega) (by omega) ?_
          exact ih18 τ241 x249 i242 r248 (iv_wk b250 (by decide)) (by have q := hm18; omega)
        by_cases s251 : x11.toInt = 7
        · refine m_tableIn (tgt := 429) (off := 396) C dL_law_33 (by omega) (by omega) (by rw [s251]; rfl) (by decide) ?_
          have b252 : IV x11 7 7 := ⟨by omega, by omega⟩
          refine m_aload_n C dL_law_429 rfl rfl ?_
          refine m_aload_n C dL_law_430 rfl rfl ?_
          refine m_iload_n C dL_law_431 rfl rfl ?_
          refine m_iconst (v := 1) C dL_law_432 (by decide) ?_
          refine m_iadd C dL_law_433 ?_
          refine m_topi (fun x253 ex253 => ?_)
          have tx253 : x253.toInt = y3.toInt + 1 := by rw [ex253, ti_addv b8 kc_1 (by decide), kt_1]
          have b254 : IV x253 1 3067 := by rw [ex253]; exact iv_add b8 kc_1 (by decide)
          refine m_sld C hX hbl hbA ⟨by omega, by omega⟩ dL_law_434 ?_
          refine m_topi (fun x255 ex255 => ?_)
          refine m_aload_n C dL_law_435 rfl rfl ?_
          refine m_iload_n C dL_law_436 rfl rfl ?_
          refine m_iconst (v := 2) C dL_law_437 (by decide) ?_
          refine m_iadd C dL_law_438 ?_
          refine m_topi (fun x256 ex256 => ?_)
          have tx256 : x256.toInt = y3.toInt + 2 := by rw [ex256, ti_addv b8 kc_2 (by decide), kt_2]
          have b257 : IV x256 2 3068 := by rw [ex256]; exact iv_add b8 kc_2 (by decide)
          refine m_sld C hX hbl hbA ⟨by omega, by omega⟩ dL_law_439 ?_
          refine m_topi (fun x258 ex258 => ?_)
          refine m_callV (n := 2) (ci := 10) (st := []) C (c_X11_go l G τ (x255) (x258) iτ ) (by decide) (by decide) rfl rfl rfl q3_17 q3_14 q3_15 q3_16 q1_1 (by decide +kernel) rfl (by decide) ⟨by show (250 + 8 * y3.toInt.toNat) + 0 ≤ 600000; omega, by show (5300 + 24 * y3.toInt.toNat) + 0 ≤ 7302250; omega⟩ rfl (Nat.le_of_ble_eq_true rfl) dL_law_440 ?_
          rintro _ τ259 ⟨x262, rfl, i260, f261, b263⟩
          have r266 : Rel τ259 := rτ.call f261 (by decide) (by decide)
          show MW p l e _ s m _ below meth c _ 4 G (250 + 8 * y3.toInt.toNat) (5300 + 24 * y3.toInt.toNat) 443 [some (.ref b), some (.ref (G.1 0 0)), some (.ref (G.1 22 0)), some (.int y3)] [.int x262] τ259
          refine m_pop C dL_law_443 rfl ?_
          refine m_aload_n C dL_law_444 rfl rfl ?_
          refine m_aload_n C dL_law_445 rfl rfl ?_
          refine m_iload_n C dL_law_446 rfl rfl ?_
          refine m_iconst (v := 1) C dL_law_447 (by decide) ?_
          refine m_iadd C dL_law_448 ?_
          refine m_topi (fun x267 ex267 => ?_)
          have tx267 : x267.toInt = y3.toInt + 1 := by rw [ex267, ti_addv b8 kc_1 (by decide), kt_1]
          have b268 : IV x267 1 3067 := by rw [ex267]; exact iv_add b8 kc_1 (by decide)
          refine m_sld C hX hbl hbA ⟨by omega, by omega⟩ dL_law_449 ?_
          refine m_eqs (w := x255) (by rw [ex255, show x267.toInt.toNat = x253.toInt.toNat by omega]) ?_
          refine m_aload_n C dL_law_450 rfl rfl ?_
          refine m_iload_n C dL_law_451 rfl rfl ?_
          refine m_iconst (v := 2) C dL_law_452 (by decide) ?_
          refine m_iadd C dL_law_453 ?_
          refine m_topi (fun x269 ex269 => ?_)
          have tx269 : x269.toInt = y3.toInt + 2 := by rw [ex269, ti_addv b8 kc_2 (by decide), kt_2]
          have b270 : IV x269 2 3068 := by rw [ex269]; exact iv_add b8 kc_2 (by decide)
          refine m_sld C hX hbl hbA ⟨by omega, by omega⟩ dL_law_454 ?_
          refine m_eqs (w := x258) (by rw [ex258, show x269.toInt.toNat = x256.toInt.toNat by omega]) ?_
          refine m_callV (n := 2) (ci := 11) (st := []) C (c_X12_go l G τ259 (x255) (x258) i260 ) (by decide) (by decide) rfl rfl rfl q5_46 q5_43 q5_44 q5_45 q1_7 (by decide +kernel) rfl (by decide) ⟨by show (250 + 8 * y3.toInt.toNat) + 0 ≤ 600000; omega, by show (5300 + 24 * y3.toInt.toNat) + 0 ≤ 7302250; omega⟩ rfl (Nat.le_of_ble_eq_true rfl) dL_law_455 ?_
          rintro _ τ271 ⟨x274, rfl, i272, f273, b275⟩
          have r278 : Rel τ271 := r266.call f273 (by decide) (by decide)
          show MW p l e _ s m _ below meth c _ 4 G (250 + 8 * y3.toInt.toNat) (5300 + 24 * y3.toInt.toNat) 458 [some (.ref b), some (.ref (G.1 0 0)), some (.ref (G.1 22 0)), some (.int y3)] [.int x274] τ271
          refine m_pop C dL_law_458 rfl ?_
          refine m_goto (tgt := 1028) C dL_law_459 (by decide) ?_
          obtain ⟨x279, ex279⟩ : ∃ y : Int32, y = y3 + 6 := ⟨_, rfl⟩
          have tx279 : x279.toInt = y3.toInt + 6 := by rw [ex279, ti_addv b8 kc_6 (by decide), kt_6]
          have b280 : IV x279 6 3072 := by rw [ex279]; exact iv_add b8 kc_6 (by decide)
          refine m_iinc (v := x279) (L1 := [some (.ref b), some (.ref (G.1 0 0)), some (.ref (G.1 22 0)), some (.int x279)]) C dL_law_1028 rfl (by rw [ex279]; rfl) (by decide) rfl rfl ?_
          refine m_goto (tgt := 18) C dL_law_1031 (by decide) ?_
          refine m_widen (c2 := 250 + 8 * x279.toInt.toNat) (s2 := 5300 + 24 * x279.toInt.toNat) (by omega) (by omega) ?_
          exact ih18 τ271 x279 i272 r278 (iv_wk b280 (by decide)) (by have q := hm18; omega)
        by_cases s281 : x11.toInt = 8
        · refine m_tableIn (tgt := 462) (off := 429) C dL_law_33 (by omega) (by omega) (by rw [s281]; rfl) (by decide) ?_
          have b282 : IV x11 8 8 := ⟨by omega, by omega⟩
          refine m_aload_n C dL_law_462 rfl rfl ?_
          refine m_aload_n C dL_law_463 rfl rfl ?_
          refine m_iload_n C dL_law_464 rfl rfl ?_
          refine m_iconst (v := 1) C dL_law_465 (by decide) ?_
          refine m_iadd C dL_law_466 ?_
          refine m_topi (fun x283 ex283 => ?_)
          have tx283 : x283.toInt = y3.toInt + 1 := by rw [ex283, ti_addv b8 kc_1 (by decide), kt_1]
          have b284 : IV x283 1 3067 := by rw [ex283]; exact iv_add b8 kc_1 (by decide)
          refine m_sld C hX hbl hbA ⟨by omega, by omega⟩ dL_law_467 ?_
          refine m_topi (fun x285 ex285 => ?_)
          refine m_aload_n C dL_law_468 rfl rfl ?_
          refine m_iload_n C dL_law_469 rfl rfl ?_
          refine m_iconst (v := 2) C dL_law_470 (by decide) ?_
          refine m_iadd C dL_law_471 ?_
          refine m_topi (fun x286 ex286 => ?_)
          have tx286 : x286.toInt = y3.toInt + 2 := by rw [ex286, ti_addv b8 kc_2 (by decide), kt_2]
          have b287 : IV x286 2 3068 := by rw [ex286]; exact iv_add b8 kc_2 (by decide)
          refine m_sld C hX hbl hbA ⟨by omega, by omega⟩ dL_law_472 ?_
          refine m_topi (fun x288 ex288 => ?_)
          refine m_callV (n := 2) (ci := 10) (st := []) C (c_X11_hang l G τ (x285) (x288) iτ ) (by decide) (by decide) rfl rfl rfl q3_29 q3_26 q3_27 q3_28 q1_1 (by decide +kernel) rfl (by decide) ⟨by show (250 + 8 * y3.toInt.toNat) + 0 ≤ 600000; omega, by show (5300 + 24 * y3.toInt.toNat) + 0 ≤ 7302250; omega⟩ rfl (Nat.le_of_ble_eq_true rfl) dL_law_473 ?_
          rintro _ τ289 ⟨x292, rfl, i290, f291, b293⟩
          have r296 : Rel τ289 := rτ.call f291 (by decide) (by decide)
          show MW p l e _ s m _ below meth c _ 4 G (250 + 8 * y3.toInt.toNat) (5300 + 24 * y3.toInt.toNat) 476 [some (.ref b), some (.ref (G.1 0 0)), some (.ref (G.1 22 0)), some (.int y3)] [.int x292] τ289
          refine m_pop C dL_law_476 rfl ?_
          refine m_aload_n C dL_law_477 rfl rfl ?_
          refine m_aload_n C dL_law_478 rfl rfl ?_
          refine m_iload_n C dL_law_479 rfl rfl ?_
          refine m_iconst (v := 1) C dL_law_480 (by decide) ?_
          refine m_iadd C dL_law_481 ?_
          refine m_topi (fun x297 ex297 => ?_)
          have tx297 : x297.toInt = y3.toInt + 1 := by rw [ex297, ti_addv b8 kc_1 (by decide), kt_1]
          have b298 : IV x297 1 3067 := by rw [ex297]; exact iv_add b8 kc_1 (by decide)
          refine m_sld C hX hbl hbA ⟨by omega, by omega⟩ dL_law_482 ?_
          refine m_eqs (w := x285) (by rw [ex285, show x297.toInt.toNat = x283.toInt.toNat by omega]) ?_
          refine m_aload_n C dL_law_483 rfl rfl ?_
          refine m_iload_n C dL_law_484 rfl rfl ?_
          refine m_iconst (v := 2) C dL_law_485 (by decide) ?_
          refine m_iadd C dL_law_486 ?_
          refine m_topi (fun x299 ex299 => ?_)
          have tx299 : x299.toInt = y3.toInt + 2 := by rw [ex299, ti_addv b8 kc_2 (by decide), kt_2]
          have b300 : IV x299 2 3068 := by rw [ex299]; exact iv_add b8 kc_2 (by decide)
          refine m_sld C hX hbl hbA ⟨by omega, by omega⟩ dL_law_487 ?_
          refine m_eqs (w := x288) (by rw [ex288, show x299.toInt.toNat = x286.toInt.toNat by omega]) ?_
          refine m_callV (n := 2) (ci := 11) (st := []) C (c_X12_hang l G τ289 (x285) (x288) i290 ) (by decide) (by decide) rfl rfl rfl q5_58 q5_55 q5_56 q5_57 q1_7 (by decide +kernel) rfl (by decide) ⟨by show (250 + 8 * y3.toInt.toNat) + 0 ≤ 600000; omega, by show (5300 + 24 * y3.toInt.toNat) + 0 ≤ 7302250; omega⟩ rfl (Nat.le_of_ble_eq_true rfl) dL_law_488 ?_
          rintro _ τ301 ⟨x304, rfl, i302, f303, b305⟩
          have r308 : Rel τ301 := r296.call f303 (by decide) (by decide)
          show MW p l e _ s m _ below meth c _ 4 G (250 + 8 * y3.toInt.toNat) (5300 + 24 * y3.toInt.toNat) 491 [some (.ref b), some (.ref (G.1 0 0)), some (.ref (G.1 22 0)), some (.int y3)] [.int x304] τ301
          refine m_pop C dL_law_491 rfl ?_
          refine m_goto (tgt := 1028) C dL_law_492 (by decide) ?_
          obtain ⟨x309, ex309⟩ : ∃ y : Int32, y = y3 + 6 := ⟨_, rfl⟩
          have tx309 : x309.toInt = y3.toInt + 6 := by rw [ex309, ti_addv b8 kc_6 (by decide), kt_6]
          have b310 : IV x309 6 3072 := by rw [ex309]; exact iv_add b8 kc_6 (by decide)
          refine m_iinc (v := x309) (L1 := [some (.ref b), some (.ref (G.1 0 0)), some (.ref (G.1 22 0)), some (.int x309)]) C dL_law_1028 rfl (by rw [ex309]; rfl) (by decide) rfl rfl ?_
          refine m_goto (tgt := 18) C dL_law_1031 (by decide) ?_
          refine m_widen (c2 := 250 + 8 * x309.toInt.toNat) (s2 := 5300 + 24 * x309.toInt.toNat) (by omega) (by omega) ?_
          exact ih18 τ301 x309 i302 r308 (iv_wk b310 (by decide)) (by have q := hm18; omega)
        by_cases s311 : x11.toInt = 9
        · refine m_tableIn (tgt := 495) (off := 462) C dL_law_33 (by omega) (by omega) (by rw [s311]; rfl) (by decide) ?_
          have b312 : IV x11 9 9 := ⟨by omega, by omega⟩
          refine m_aload_n C dL_law_495 rfl rfl ?_
          refine m_aload_n C dL_law_496 rfl rfl ?_
          refine m_iload_n C dL_law_497 rfl rfl ?_
          refine m_iconst (v := 1) C dL_law_498 (by decide) ?_
          refine m_iadd C dL_law_499 ?_
          refine m_topi (fun x313 ex313 => ?_)
          have tx313 : x313.toInt = y3.toInt + 1 := by rw [ex313, ti_addv b8 kc_1 (by decide), kt_1]
          have b314 : IV x313 1 3067 := by rw [ex313]; exact iv_add b8 kc_1 (by decide)
          refine m_sld C hX hbl hbA ⟨by omega, by omega⟩ dL_law_500 ?_
          refine m_topi (fun x315 ex315 => ?_)
          refine m_callV (n := 1) (ci := 10) (st := []) C (c_X11_halves l G τ (x315) iτ ) (by decide) (by decide) rfl rfl rfl q3_37 q3_34 q3_35 q3_36 q1_1 (by decide +kernel) rfl (by decide) ⟨by show (250 + 8 * y3.toInt.toNat) + 0 ≤ 600000; omega, by show (5300 + 24 * y3.toInt.toNat) + 0 ≤ 7302250; omega⟩ rfl (Nat.le_of_ble_eq_true rfl) dL_law_501 ?_
          rintro _ τ316 ⟨x319, rfl, i317, f318, b320⟩
          have r323 : Rel τ316 := rτ.call f318 (by decide) (by decide)
          show MW p l e _ s m _ below meth c _ 4 G (250 + 8 * y3.toInt.toNat) (5300 + 24 * y3.toInt.toNat) 504 [some (.ref b), some (.ref (G.1 0 0)), some (.ref (G.1 22 0)), some (.int y3)] [.int x319] τ316
          refine m_pop C dL_law_504 rfl ?_
          refine m_aload_n C dL_law_505 rfl rfl ?_
          refine m_aload_n C dL_law_506 rfl rfl ?_
          refine m_iload_n C dL_law_507 rfl rfl ?_
          refine m_iconst (v := 1) C dL_law_508 (by decide) ?_
          refine m_iadd C dL_law_509 ?_
          refine m_topi (fun x324 ex324 => ?_)
          have tx324 : x324.toInt = y3.toInt + 1 := by rw [ex324, ti_addv b8 kc_1 (by decide), kt_1]
          have b325 : IV x324 1 3067 := by rw [ex324]; exact iv_add b8 kc_1 (by decide)
          refine m_sld C hX hbl hbA ⟨by omega, by omega⟩ dL_law_510 ?_
          refine m_eqs (w := x315) (by rw [ex315, show x324.toInt.toNat = x313.toInt.toNat by omega]) ?_
          refine m_callV (n := 1) (ci := 11) (st := []) C (c_X12_halves l G τ316 (x315) i317 ) (by decide) (by decide) rfl rfl rfl q5_63 q5_60 q5_61 q5_62 q1_7 (by decide +kernel) rfl (by decide) ⟨by show (250 + 8 * y3.toInt.toNat) + 0 ≤ 600000; omega, by show (5300 + 24 * y3.toInt.toNat) + 0 ≤ 7302250; omega⟩ rfl (Nat.le_of_ble_eq_true rfl) dL_law_511 ?_
          rintro _ τ326 ⟨x329, rfl, i327, f328, b330⟩
          have r333 : Rel τ326 := r323.call f328 (by decide) (by decide)
          show MW p l e _ s m _ below meth c _ 4 G (250 + 8 * y3.toInt.toNat) (5300 + 24 * y3.toInt.toNat) 514 [some (.ref b), some (.ref (G.1 0 0)), some (.ref (G.1 22 0)), some (.int y3)] [.int x329] τ326
          refine m_pop C dL_law_514 rfl ?_
          refine m_goto (tgt := 1028) C dL_law_515 (by decide) ?_
          obtain ⟨x334, ex334⟩ : ∃ y : Int32, y = y3 + 6 := ⟨_, rfl⟩
          have tx334 : x334.toInt = y3.toInt + 6 := by rw [ex334, ti_addv b8 kc_6 (by decide), kt_6]
          have b335 : IV x334 6 3072 := by rw [ex334]; exact iv_add b8 kc_6 (by decide)
          refine m_iinc (v := x334) (L1 := [some (.ref b), some (.ref (G.1 0 0)), some (.ref (G.1 22 0)), some (.int x334)]) C dL_law_1028 rfl (by rw [ex334]; rfl) (by decide) rfl rfl ?_
          refine m_goto (tgt := 18) C dL_law_1031 (by decide) ?_
          refine m_widen (c2 := 250 + 8 * x334.toInt.toNat) (s2 := 5300 + 24 * x334.toInt.toNat) (by omega) (by omega) ?_
          exact ih18 τ326 x334 i327 r333 (iv_wk b335 (by decide)) (by have q := hm18; omega)
        by_cases s336 : x11.toInt = 10
        · refine m_tableIn (tgt := 518) (off := 485) C dL_law_33 (by omega) (by omega) (by rw [s336]; rfl) (by decide) ?_
          have b337 : IV x11 10 10 := ⟨by omega, by omega⟩
          refine m_aload_n C dL_law_518 rfl rfl ?_
          refine m_callV (n := 0) (ci := 10) (st := []) C (c_X11_year l G τ  iτ ) (by decide) (by decide) rfl rfl rfl q3_97 q3_94 q3_95 q3_96 q1_1 (by decide +kernel) rfl (by decide) ⟨by show (250 + 8 * y3.toInt.toNat) + 0 ≤ 600000; omega, by show (5300 + 24 * y3.toInt.toNat) + 0 ≤ 7302250; omega⟩ rfl (Nat.le_of_ble_eq_true rfl) dL_law_519 ?_
          rintro _ τ338 ⟨x341, rfl, i339, f340, b342⟩
          have r345 : Rel τ338 := rτ.call f340 (by decide) (by decide)
          show MW p l e _ s m _ below meth c _ 4 G (250 + 8 * y3.toInt.toNat) (5300 + 24 * y3.toInt.toNat) 522 [some (.ref b), some (.ref (G.1 0 0)), some (.ref (G.1 22 0)), some (.int y3)] [.int x341] τ338
          refine m_pop C dL_law_522 rfl ?_
          refine m_aload_n C dL_law_523 rfl rfl ?_
          refine m_callV (n := 0) (ci := 11) (st := []) C (c_X12_year l G τ338  i339 ) (by decide) (by decide) rfl rfl rfl q5_103 q5_100 q5_101 q5_102 q1_7 (by decide +kernel) rfl (by decide) ⟨by show (250 + 8 * y3.toInt.toNat) + 0 ≤ 600000; omega, by show (5300 + 24 * y3.toInt.toNat) + 0 ≤ 7302250; omega⟩ rfl (Nat.le_of_ble_eq_true rfl) dL_law_524 ?_
          rintro _ τ346 ⟨x349, rfl, i347, f348, b350⟩
          have r353 : Rel τ346 := r345.call f348 (by decide) (by decide)
          show MW p l e _ s m _ below meth c _ 4 G (250 + 8 * y3.toInt.toNat) (5300 + 24 * y3.toInt.toNat) 527 [some (.ref b), some (.ref (G.1 0 0)), some (.ref (G.1 22 0)), some (.int y3)] [.int x349] τ346
          refine m_pop C dL_law_527 rfl ?_
          refine m_goto (tgt := 1028) C dL_law_528 (by decide) ?_
          obtain ⟨x354, ex354⟩ : ∃ y : Int32, y = y3 + 6 := ⟨_, rfl⟩
          have tx354 : x354.toInt = y3.toInt + 6 := by rw [ex354, ti_addv b8 kc_6 (by decide), kt_6]
          have b355 : IV x354 6 3072 := by rw [ex354]; exact iv_add b8 kc_6 (by decide)
          refine m_iinc (v := x354) (L1 := [some (.ref b), some (.ref (G.1 0 0)), some (.ref (G.1 22 0)), some (.int x354)]) C dL_law_1028 rfl (by rw [ex354]; rfl) (by decide) rfl rfl ?_
          refine m_goto (tgt := 18) C dL_law_1031 (by decide) ?_
          refine m_widen (c2 := 250 + 8 * x354.toInt.toNat) (s2 := 5300 + 24 * x354.toInt.toNat) (by omega) (by omega) ?_
          exact ih18 τ346 x354 i347 r353 (iv_wk b355 (by decide)) (by have q := hm18; omega)
        by_cases s356 : x11.toInt = 11
        · refine m_tableIn (tgt := 531) (off := 498) C dL_law_33 (by omega) (by omega) (by rw [s356]; rfl) (by decide) ?_
          have b357 : IV x11 11 11 := ⟨by omega, by omega⟩
          refine m_aload_n C dL_law_531 rfl rfl ?_
          refine m_callV (n := 0) (ci := 10) (st := []) C (c_X11_undo l G τ  iτ ) (by decide) (by decide) rfl rfl rfl q3_106 q3_103 q3_104 q3_105 q1_1 (by decide +kernel) rfl (by decide) ⟨by show (250 + 8 * y3.toInt.toNat) + 0 ≤ 600000; omega, by show (5300 + 24 * y3.toInt.toNat) + 0 ≤ 7302250; omega⟩ rfl (Nat.le_of_ble_eq_true rfl) dL_law_532 ?_
          rintro _ τ358 ⟨x361, rfl, i359, f360, b362⟩
          have r365 : Rel τ358 := rτ.call f360 (by decide) (by decide)
          show MW p l e _ s m _ below meth c _ 4 G (250 + 8 * y3.toInt.toNat) (5300 + 24 * y3.toInt.toNat) 535 [some (.ref b), some (.ref (G.1 0 0)), some (.ref (G.1 22 0)), some (.int y3)] [.int x361] τ358
          refine m_pop C dL_law_535 rfl ?_
          refine m_aload_n C dL_law_536 rfl rfl ?_
          refine m_callV (n := 0) (ci := 11) (st := []) C (c_X12_undo l G τ358  i359 ) (by decide) (by decide) rfl rfl rfl q5_111 q5_108 q5_109 q5_110 q1_7 (by decide +kernel) rfl (by decide) ⟨by show (250 + 8 * y3.toInt.toNat) + 0 ≤ 600000; omega, by show (5300 + 24 * y3.toInt.toNat) + 0 ≤ 7302250; omega⟩ rfl (Nat.le_of_ble_eq_true rfl) dL_law_537 ?_
          rintro _ τ366 ⟨x369, rfl, i367, f368, b370⟩
          have r373 : Rel τ366 := r365.call f368 (by decide) (by decide)
          show MW p l e _ s m _ below meth c _ 4 G (250 + 8 * y3.toInt.toNat) (5300 + 24 * y3.toInt.toNat) 540 [some (.ref b), some (.ref (G.1 0 0)), some (.ref (G.1 22 0)), some (.int y3)] [.int x369] τ366
          refine m_pop C dL_law_540 rfl ?_
          refine m_goto (tgt := 1028) C dL_law_541 (by decide) ?_
          obtain ⟨x374, ex374⟩ : ∃ y : Int32, y = y3 + 6 := ⟨_, rfl⟩
          have tx374 : x374.toInt = y3.toInt + 6 := by rw [ex374, ti_addv b8 kc_6 (by decide), kt_6]
          have b375 : IV x374 6 3072 := by rw [ex374]; exact iv_add b8 kc_6 (by decide)
          refine m_iinc (v := x374) (L1 := [some (.ref b), some (.ref (G.1 0 0)), some (.ref (G.1 22 0)), some (.int x374)]) C dL_law_1028 rfl (by rw [ex374]; rfl) (by decide) rfl rfl ?_
          refine m_goto (tgt := 18) C dL_law_1031 (by decide) ?_
          refine m_widen (c2 := 250 + 8 * x374.toInt.toNat) (s2 := 5300 + 24 * x374.toInt.toNat) (by omega) (by omega) ?_
          exact ih18 τ366 x374 i367 r373 (iv_wk b375 (by decide)) (by have q := hm18; omega)
        by_cases s376 : x11.toInt = 12
        · refine m_tableIn (tgt := 544) (off := 511) C dL_law_33 (by omega) (by omega) (by rw [s376]; rfl) (by decide) ?_
          have b377 : IV x11 12 12 := ⟨by omega, by omega⟩
          refine m_aload_n C dL_law_544 rfl rfl ?_
          refine m_aload_n C dL_law_545 rfl rfl ?_
          refine m_iload_n C dL_law_546 rfl rfl ?_
          refine m_iconst (v := 1) C dL_law_547 (by decide) ?_
          refine m_iadd C dL_law_548 ?_
          refine m_topi (fun x378 ex378 => ?_)
          have tx378 : x378.toInt = y3.toInt + 1 := by rw [ex378, ti_addv b8 kc_1 (by decide), kt_1]
          have b379 : IV x378 1 3067 := by rw [ex378]; exact iv_add b8 kc_1 (by decide)
          refine m_sld C hX hbl hbA ⟨by omega, by omega⟩ dL_law_549 ?_
          refine m_topi (fun x380 ex380 => ?_)
          refine m_aload_n C dL_law_550 rfl rfl ?_
          refine m_iload_n C dL_law_551 rfl rfl ?_
          refine m_iconst (v := 2) C dL_law_552 (by decide) ?_
          refine m_iadd C dL_law_553 ?_
          refine m_topi (fun x381 ex381 => ?_)
          have tx381 : x381.toInt = y3.toInt + 2 := by rw [ex381, ti_addv b8 kc_2 (by decide), kt_2]
          have b382 : IV x381 2 3068 := by rw [ex381]; exact iv_add b8 kc_2 (by decide)
          refine m_sld C hX hbl hbA ⟨by omega, by omega⟩ dL_law_554 ?_
          refine m_topi (fun x383 ex383 => ?_)
          refine m_callV (n := 2) (ci := 10) (st := []) C (c_X11_person l G τ (x380) (x383) iτ ) (by decide) (by decide) rfl rfl rfl q3_110 q3_107 q3_108 q3_109 q1_1 (by decide +kernel) rfl (by decide) ⟨by show (250 + 8 * y3.toInt.toNat) + 0 ≤ 600000; omega, by show (5300 + 24 * y3.toInt.toNat) + 0 ≤ 7302250; omega⟩ rfl (Nat.le_of_ble_eq_true rfl) dL_law_555 ?_
          rintro _ τ384 ⟨x387, rfl, i385, f386, b388⟩
          have r391 : Rel τ384 := rτ.call f386 (by decide) (by decide)
          show MW p l e _ s m _ below meth c _ 4 G (250 + 8 * y3.toInt.toNat) (5300 + 24 * y3.toInt.toNat) 558 [some (.ref b), some (.ref (G.1 0 0)), some (.ref (G.1 22 0)), some (.int y3)] [.int x387] τ384
          refine m_pop C dL_law_558 rfl ?_
          refine m_aload_n C dL_law_559 rfl rfl ?_
          refine m_aload_n C dL_law_560 rfl rfl ?_
          refine m_iload_n C dL_law_561 rfl rfl ?_
          refine m_iconst (v := 1) C dL_law_562 (by decide) ?_
          refine m_iadd C dL_law_563 ?_
          refine m_topi (fun x392 ex392 => ?_)
          have tx392 : x392.toInt = y3.toInt + 1 := by rw [ex392, ti_addv b8 kc_1 (by decide), kt_1]
          have b393 : IV x392 1 3067 := by rw [ex392]; exact iv_add b8 kc_1 (by decide)
          refine m_sld C hX hbl hbA ⟨by omega, by omega⟩ dL_law_564 ?_
          refine m_eqs (w := x380) (by rw [ex380, show x392.toInt.toNat = x378.toInt.toNat by omega]) ?_
          refine m_aload_n C dL_law_565 rfl rfl ?_
          refine m_iload_n C dL_law_566 rfl rfl ?_
          refine m_iconst (v := 2) C dL_law_567 (by decide) ?_
          refine m_iadd C dL_law_568 ?_
          refine m_topi (fun x394 ex394 => ?_)
          have tx394 : x394.toInt = y3.toInt + 2 := by rw [ex394, ti_addv b8 kc_2 (by decide), kt_2]
          have b395 : IV x394 2 3068 := by rw [ex394]; exact iv_add b8 kc_2 (by decide)
          refine m_sld C hX hbl hbA ⟨by omega, by omega⟩ dL_law_569 ?_
          refine m_eqs (w := x383) (by rw [ex383, show x394.toInt.toNat = x381.toInt.toNat by omega]) ?_
          refine m_callV (n := 2) (ci := 11) (st := []) C (c_X12_person l G τ384 (x380) (x383) i385 ) (by decide) (by decide) rfl rfl rfl q5_115 q5_112 q5_113 q5_114 q1_7 (by decide +kernel) rfl (by decide) ⟨by show (250 + 8 * y3.toInt.toNat) + 0 ≤ 600000; omega, by show (5300 + 24 * y3.toInt.toNat) + 0 ≤ 7302250; omega⟩ rfl (Nat.le_of_ble_eq_true rfl) dL_law_570 ?_
          rintro _ τ396 ⟨x399, rfl, i397, f398, b400⟩
          have r403 : Rel τ396 := r391.call f398 (by decide) (by decide)
          show MW p l e _ s m _ below meth c _ 4 G (250 + 8 * y3.toInt.toNat) (5300 + 24 * y3.toInt.toNat) 573 [some (.ref b), some (.ref (G.1 0 0)), some (.ref (G.1 22 0)), some (.int y3)] [.int x399] τ396
          refine m_pop C dL_law_573 rfl ?_
          refine m_goto (tgt := 1028) C dL_law_574 (by decide) ?_
          obtain ⟨x404, ex404⟩ : ∃ y : Int32, y = y3 + 6 := ⟨_, rfl⟩
          have tx404 : x404.toInt = y3.toInt + 6 := by rw [ex404, ti_addv b8 kc_6 (by decide), kt_6]
          have b405 : IV x404 6 3072 := by rw [ex404]; exact iv_add b8 kc_6 (by decide)
          refine m_iinc (v := x404) (L1 := [some (.ref b), some (.ref (G.1 0 0)), some (.ref (G.1 22 0)), some (.int x404)]) C dL_law_1028 rfl (by rw [ex404]; rfl) (by decide) rfl rfl ?_
          refine m_goto (tgt := 18) C dL_law_1031 (by decide) ?_
          refine m_widen (c2 := 250 + 8 * x404.toInt.toNat) (s2 := 5300 + 24 * x404.toInt.toNat) (by omega) (by omega) ?_
          exact ih18 τ396 x404 i397 r403 (iv_wk b405 (by decide)) (by have q := hm18; omega)
        by_cases s406 : x11.toInt = 13
        · refine m_tableIn (tgt := 577) (off := 544) C dL_law_33 (by omega) (by omega) (by rw [s406]; rfl) (by decide) ?_
          have b407 : IV x11 13 13 := ⟨by omega, by omega⟩
          refine m_aload_n C dL_law_577 rfl rfl ?_
          refine m_aload_n C dL_law_578 rfl rfl ?_
          refine m_iload_n C dL_law_579 rfl rfl ?_
          refine m_iconst (v := 1) C dL_law_580 (by decide) ?_
          refine m_iadd C dL_law_581 ?_
          refine m_topi (fun x408 ex408 => ?_)
          have tx408 : x408.toInt = y3.toInt + 1 := by rw [ex408, ti_addv b8 kc_1 (by decide), kt_1]
          have b409 : IV x408 1 3067 := by rw [ex408]; exact iv_add b8 kc_1 (by decide)
          refine m_sld C hX hbl hbA ⟨by omega, by omega⟩ dL_law_582 ?_
          refine m_topi (fun x410 ex410 => ?_)
          refine m_callV (n := 1) (ci := 10) (st := []) C (c_X11_lean l G τ (x410) iτ ) (by decide) (by decide) rfl rfl rfl q3_120 q3_117 q3_118 q3_119 q1_1 (by decide +kernel) rfl (by decide) ⟨by show (250 + 8 * y3.toInt.toNat) + 0 ≤ 600000; omega, by show (5300 + 24 * y3.toInt.toNat) + 0 ≤ 7302250; omega⟩ rfl (Nat.le_of_ble_eq_true rfl) dL_law_583 ?_
          rintro _ τ411 ⟨x414, rfl, i412, f413, b415⟩
          have r418 : Rel τ411 := rτ.call f413 (by decide) (by decide)
          show MW p l e _ s m _ below meth c _ 4 G (250 + 8 * y3.toInt.toNat) (5300 + 24 * y3.toInt.toNat) 586 [some (.ref b), some (.ref (G.1 0 0)), some (.ref (G.1 22 0)), some (.int y3)] [.int x414] τ411
          refine m_pop C dL_law_586 rfl ?_
          refine m_aload_n C dL_law_587 rfl rfl ?_
          refine m_aload_n C dL_law_588 rfl rfl ?_
          refine m_iload_n C dL_law_589 rfl rfl ?_
          refine m_iconst (v := 1) C dL_law_590 (by decide) ?_
          refine m_iadd C dL_law_591 ?_
          refine m_topi (fun x419 ex419 => ?_)
          have tx419 : x419.toInt = y3.toInt + 1 := by rw [ex419, ti_addv b8 kc_1 (by decide), kt_1]
          have b420 : IV x419 1 3067 := by rw [ex419]; exact iv_add b8 kc_1 (by decide)
          refine m_sld C hX hbl hbA ⟨by omega, by omega⟩ dL_law_592 ?_
          refine m_eqs (w := x410) (by rw [ex410, show x419.toInt.toNat = x408.toInt.toNat by omega]) ?_
          refine m_callV (n := 1) (ci := 11) (st := []) C (c_X12_lean l G τ411 (x410) i412 ) (by decide) (by decide) rfl rfl rfl q5_120 q5_117 q5_118 q5_119 q1_7 (by decide +kernel) rfl (by decide) ⟨by show (250 + 8 * y3.toInt.toNat) + 0 ≤ 600000; omega, by show (5300 + 24 * y3.toInt.toNat) + 0 ≤ 7302250; omega⟩ rfl (Nat.le_of_ble_eq_true rfl) dL_law_593 ?_
          rintro _ τ421 ⟨x424, rfl, i422, f423, b425⟩
          have r428 : Rel τ421 := r418.call f423 (by decide) (by decide)
          show MW p l e _ s m _ below meth c _ 4 G (250 + 8 * y3.toInt.toNat) (5300 + 24 * y3.toInt.toNat) 596 [some (.ref b), some (.ref (G.1 0 0)), some (.ref (G.1 22 0)), some (.int y3)] [.int x424] τ421
          refine m_pop C dL_law_596 rfl ?_
          refine m_goto (tgt := 1028) C dL_law_597 (by decide) ?_
          obtain ⟨x429, ex429⟩ : ∃ y : Int32, y = y3 + 6 := ⟨_, rfl⟩
          have tx429 : x429.toInt = y3.toInt + 6 := by rw [ex429, ti_addv b8 kc_6 (by decide), kt_6]
          have b430 : IV x429 6 3072 := by rw [ex429]; exact iv_add b8 kc_6 (by decide)
          refine m_iinc (v := x429) (L1 := [some (.ref b), some (.ref (G.1 0 0)), some (.ref (G.1 22 0)), some (.int x429)]) C dL_law_1028 rfl (by rw [ex429]; rfl) (by decide) rfl rfl ?_
          refine m_goto (tgt := 18) C dL_law_1031 (by decide) ?_
          refine m_widen (c2 := 250 + 8 * x429.toInt.toNat) (s2 := 5300 + 24 * x429.toInt.toNat) (by omega) (by omega) ?_
          exact ih18 τ421 x429 i422 r428 (iv_wk b430 (by decide)) (by have q := hm18; omega)
        by_cases s431 : x11.toInt = 14
        · refine m_tableIn (tgt := 600) (off := 567) C dL_law_33 (by omega) (by omega) (by rw [s431]; rfl) (by decide) ?_
          have b432 : IV x11 14 14 := ⟨by omega, by omega⟩
          refine m_aload_n C dL_law_600 rfl rfl ?_
          refine m_aload_n C dL_law_601 rfl rfl ?_
          refine m_iload_n C dL_law_602 rfl rfl ?_
          refine m_iconst (v := 1) C dL_law_603 (by decide) ?_
          refine m_iadd C dL_law_604 ?_
          refine m_topi (fun x433 ex433 => ?_)
          have tx433 : x433.toInt = y3.toInt + 1 := by rw [ex433, ti_addv b8 kc_1 (by decide), kt_1]
          have b434 : IV x433 1 3067 := by rw [ex433]; exact iv_add b8 kc_1 (by decide)
          refine m_sld C hX hbl hbA ⟨by omega, by omega⟩ dL_law_605 ?_
          refine m_topi (fun x435 ex435 => ?_)
          refine m_callV (n := 1) (ci := 10) (st := []) C (c_X11_worst l G τ (x435) iτ ) (by decide) (by decide) rfl rfl rfl q3_125 q3_122 q3_123 q3_124 q1_1 (by decide +kernel) rfl (by decide) ⟨by show (250 + 8 * y3.toInt.toNat) + 0 ≤ 600000; omega, by show (5300 + 24 * y3.toInt.toNat) + 0 ≤ 7302250; omega⟩ rfl (Nat.le_of_ble_eq_true rfl) dL_law_606 ?_
          rintro _ τ436 ⟨x439, rfl, i437, f438, b440⟩
          have r443 : Rel τ436 := rτ.call f438 (by decide) (by decide)
          show MW p l e _ s m _ below meth c _ 4 G (250 + 8 * y3.toInt.toNat) (5300 + 24 * y3.toInt.toNat) 609 [some (.ref b), some (.ref (G.1 0 0)), some (.ref (G.1 22 0)), some (.int y3)] [.int x439] τ436
          refine m_pop C dL_law_609 rfl ?_
          refine m_aload_n C dL_law_610 rfl rfl ?_
          refine m_aload_n C dL_law_611 rfl rfl ?_
          refine m_iload_n C dL_law_612 rfl rfl ?_
          refine m_iconst (v := 1) C dL_law_613 (by decide) ?_
          refine m_iadd C dL_law_614 ?_
          refine m_topi (fun x444 ex444 => ?_)
          have tx444 : x444.toInt = y3.toInt + 1 := by rw [ex444, ti_addv b8 kc_1 (by decide), kt_1]
          have b445 : IV x444 1 3067 := by rw [ex444]; exact iv_add b8 kc_1 (by decide)
          refine m_sld C hX hbl hbA ⟨by omega, by omega⟩ dL_law_615 ?_
          refine m_eqs (w := x435) (by rw [ex435, show x444.toInt.toNat = x433.toInt.toNat by omega]) ?_
          refine m_callV (n := 1) (ci := 11) (st := []) C (c_X12_worst l G τ436 (x435) i437 ) (by decide) (by decide) rfl rfl rfl q5_124 q5_121 q5_122 q5_123 q1_7 (by decide +kernel) rfl (by decide) ⟨by show (250 + 8 * y3.toInt.toNat) + 0 ≤ 600000; omega, by show (5300 + 24 * y3.toInt.toNat) + 0 ≤ 7302250; omega⟩ rfl (Nat.le_of_ble_eq_true rfl) dL_law_616 ?_
          rintro _ τ446 ⟨x449, rfl, i447, f448, b450⟩
          have r453 : Rel τ446 := r443.call f448 (by decide) (by decide)
          show MW p l e _ s m _ below meth c _ 4 G (250 + 8 * y3.toInt.toNat) (5300 + 24 * y3.toInt.toNat) 619 [some (.ref b), some (.ref (G.1 0 0)), some (.ref (G.1 22 0)), some (.int y3)] [.int x449] τ446
          refine m_pop C dL_law_619 rfl ?_
          refine m_goto (tgt := 1028) C dL_law_620 (by decide) ?_
          obtain ⟨x454, ex454⟩ : ∃ y : Int32, y = y3 + 6 := ⟨_, rfl⟩
          have tx454 : x454.toInt = y3.toInt + 6 := by rw [ex454, ti_addv b8 kc_6 (by decide), kt_6]
          have b455 : IV x454 6 3072 := by rw [ex454]; exact iv_add b8 kc_6 (by decide)
          refine m_iinc (v := x454) (L1 := [some (.ref b), some (.ref (G.1 0 0)), some (.ref (G.1 22 0)), some (.int x454)]) C dL_law_1028 rfl (by rw [ex454]; rfl) (by decide) rfl rfl ?_
          refine m_goto (tgt := 18) C dL_law_1031 (by decide) ?_
          refine m_widen (c2 := 250 + 8 * x454.toInt.toNat) (s2 := 5300 + 24 * x454.toInt.toNat) (by omega) (by omega) ?_
          exact ih18 τ446 x454 i447 r453 (iv_wk b455 (by decide)) (by have q := hm18; omega)
        by_cases s456 : x11.toInt = 15
        · refine m_tableIn (tgt := 623) (off := 590) C dL_law_33 (by omega) (by omega) (by rw [s456]; rfl) (by decide) ?_
          have b457 : IV x11 15 15 := ⟨by omega, by omega⟩
          refine m_aload_n C dL_law_623 rfl rfl ?_
          refine m_callV (n := 0) (ci := 10) (st := []) C (c_X11_most l G τ  iτ ) (by decide) (by decide) rfl rfl rfl q3_139 q3_136 q3_137 q3_138 q1_1 (by decide +kernel) rfl (by decide) ⟨by show (250 + 8 * y3.toInt.toNat) + 0 ≤ 600000; omega, by show (5300 + 24 * y3.toInt.toNat) + 0 ≤ 7302250; omega⟩ rfl (Nat.le_of_ble_eq_true rfl) dL_law_624 ?_
          rintro _ τ458 ⟨x461, rfl, i459, f460, b462⟩
          have r465 : Rel τ458 := rτ.call f460 (by decide) (by decide)
          show MW p l e _ s m _ below meth c _ 4 G (250 + 8 * y3.toInt.toNat) (5300 + 24 * y3.toInt.toNat) 627 [some (.ref b), some (.ref (G.1 0 0)), some (.ref (G.1 22 0)), some (.int y3)] [.int x461] τ458
          refine m_pop C dL_law_627 rfl ?_
          refine m_aload_n C dL_law_628 rfl rfl ?_
          refine m_callV (n := 0) (ci := 11) (st := []) C (c_X12_most l G τ458  i459 ) (by decide) (by decide) rfl rfl rfl q5_136 q5_133 q5_134 q5_135 q1_7 (by decide +kernel) rfl (by decide) ⟨by show (250 + 8 * y3.toInt.toNat) + 0 ≤ 600000; omega, by show (5300 + 24 * y3.toInt.toNat) + 0 ≤ 7302250; omega⟩ rfl (Nat.le_of_ble_eq_true rfl) dL_law_629 ?_
          rintro _ τ466 ⟨x469, rfl, i467, f468, b470⟩
          have r473 : Rel τ466 := r465.call f468 (by decide) (by decide)
          show MW p l e _ s m _ below meth c _ 4 G (250 + 8 * y3.toInt.toNat) (5300 + 24 * y3.toInt.toNat) 632 [some (.ref b), some (.ref (G.1 0 0)), some (.ref (G.1 22 0)), some (.int y3)] [.int x469] τ466
          refine m_pop C dL_law_632 rfl ?_
          refine m_goto (tgt := 1028) C dL_law_633 (by decide) ?_
          obtain ⟨x474, ex474⟩ : ∃ y : Int32, y = y3 + 6 := ⟨_, rfl⟩
          have tx474 : x474.toInt = y3.toInt + 6 := by rw [ex474, ti_addv b8 kc_6 (by decide), kt_6]
          have b475 : IV x474 6 3072 := by rw [ex474]; exact iv_add b8 kc_6 (by decide)
          refine m_iinc (v := x474) (L1 := [some (.ref b), some (.ref (G.1 0 0)), some (.ref (G.1 22 0)), some (.int x474)]) C dL_law_1028 rfl (by rw [ex474]; rfl) (by decide) rfl rfl ?_
          refine m_goto (tgt := 18) C dL_law_1031 (by decide) ?_
          refine m_widen (c2 := 250 + 8 * x474.toInt.toNat) (s2 := 5300 + 24 * x474.toInt.toNat) (by omega) (by omega) ?_
          exact ih18 τ466 x474 i467 r473 (iv_wk b475 (by decide)) (by have q := hm18; omega)
        by_cases s476 : x11.toInt = 16
        · refine m_tableIn (tgt := 636) (off := 603) C dL_law_33 (by omega) (by omega) (by rw [s476]; rfl) (by decide) ?_
          have b477 : IV x11 16 16 := ⟨by omega, by omega⟩
          refine m_aload_n C dL_law_636 rfl rfl ?_
          refine m_aload_n C dL_law_637 rfl rfl ?_
          refine m_iload_n C dL_law_638 rfl rfl ?_
          refine m_iconst (v := 1) C dL_law_639 (by decide) ?_
          refine m_iadd C dL_law_640 ?_
          refine m_topi (fun x478 ex478 => ?_)
          have tx478 : x478.toInt = y3.toInt + 1 := by rw [ex478, ti_addv b8 kc_1 (by decide), kt_1]
          have b479 : IV x478 1 3067 := by rw [ex478]; exact iv_add b8 kc_1 (by decide)
          refine m_sld C hX hbl hbA ⟨by omega, by omega⟩ dL_law_641 ?_
          refine m_topi (fun x480 ex480 => ?_)
          refine m_aload_n C dL_law_642 rfl rfl ?_
          refine m_iload_n C dL_law_643 rfl rfl ?_
          refine m_iconst (v := 2) C dL_law_644 (by decide) ?_
          refine m_iadd C dL_law_645 ?_
          refine m_topi (fun x481 ex481 => ?_)
          have tx481 : x481.toInt = y3.toInt + 2 := by rw [ex481, ti_addv b8 kc_2 (by decide), kt_2]
          have b482 : IV x481 2 3068 := by rw [ex481]; exact iv_add b8 kc_2 (by decide)
          refine m_sld C hX hbl hbA ⟨by omega, by omega⟩ dL_law_646 ?_
          refine m_topi (fun x483 ex483 => ?_)
          refine m_aload_n C dL_law_647 rfl rfl ?_
          refine m_iload_n C dL_law_648 rfl rfl ?_
          refine m_iconst (v := 3) C dL_law_649 (by decide) ?_
          refine m_iadd C dL_law_650 ?_
          refine m_topi (fun x484 ex484 => ?_)
          have tx484 : x484.toInt = y3.toInt + 3 := by rw [ex484, ti_addv b8 kc_3 (by decide), kt_3]
          have b485 : IV x484 3 3069 := by rw [ex484]; exact iv_add b8 kc_3 (by decide)
          refine m_sld C hX hbl hbA ⟨by omega, by omega⟩ dL_law_651 ?_
          refine m_topi (fun x486 ex486 => ?_)
          refine m_callV (n := 3) (ci := 10) (st := []) C (c_X11_two l G τ (x480) (x483) (x486) iτ ) (by decide) (by decide) rfl rfl rfl q3_157 q3_154 q3_155 q3_156 q1_1 (by decide +kernel) rfl (by decide) ⟨by show (250 + 8 * y3.toInt.toNat) + 0 ≤ 600000; omega, by show (5300 + 24 * y3.toInt.toNat) + 0 ≤ 7302250; omega⟩ rfl (Nat.le_of_ble_eq_true rfl) dL_law_652 ?_
          rintro _ τ487 ⟨x490, rfl, i488, f489, b491⟩
          have r494 : Rel τ487 := rτ.call f489 (by decide) (by decide)
          show MW p l e _ s m _ below meth c _ 4 G (250 + 8 * y3.toInt.toNat) (5300 + 24 * y3.toInt.toNat) 655 [some (.ref b), some (.ref (G.1 0 0)), some (.ref (G.1 22 0)), some (.int y3)] [.int x490] τ487
          refine m_pop C dL_law_655 rfl ?_
          refine m_aload_n C dL_law_656 rfl rfl ?_
          refine m_aload_n C dL_law_657 rfl rfl ?_
          refine m_iload_n C dL_law_658 rfl rfl ?_
          refine m_iconst (v := 1) C dL_law_659 (by decide) ?_
          refine m_iadd C dL_law_660 ?_
          refine m_topi (fun x495 ex495 => ?_)
          have tx495 : x495.toInt = y3.toInt + 1 := by rw [ex495, ti_addv b8 kc_1 (by decide), kt_1]
          have b496 : IV x495 1 3067 := by rw [ex495]; exact iv_add b8 kc_1 (by decide)
          refine m_sld C hX hbl hbA ⟨by omega, by omega⟩ dL_law_661 ?_
          refine m_eqs (w := x480) (by rw [ex480, show x495.toInt.toNat = x478.toInt.toNat by omega]) ?_
          refine m_aload_n C dL_law_662 rfl rfl ?_
          refine m_iload_n C dL_law_663 rfl rfl ?_
          refine m_iconst (v := 2) C dL_law_664 (by decide) ?_
          refine m_iadd C dL_law_665 ?_
          refine m_topi (fun x497 ex497 => ?_)
          have tx497 : x497.toInt = y3.toInt + 2 := by rw [ex497, ti_addv b8 kc_2 (by decide), kt_2]
          have b498 : IV x497 2 3068 := by rw [ex497]; exact iv_add b8 kc_2 (by decide)
          refine m_sld C hX hbl hbA ⟨by omega, by omega⟩ dL_law_666 ?_
          refine m_eqs (w := x483) (by rw [ex483, show x497.toInt.toNat = x481.toInt.toNat by omega]) ?_
          refine m_aload_n C dL_law_667 rfl rfl ?_
          refine m_iload_n C dL_law_668 rfl rfl ?_
          refine m_iconst (v := 3) C dL_law_669 (by decide) ?_
          refine m_iadd C dL_law_670 ?_
          refine m_topi (fun x499 ex499 => ?_)
          have tx499 : x499.toInt = y3.toInt + 3 := by rw [ex499, ti_addv b8 kc_3 (by decide), kt_3]
          have b500 : IV x499 3 3069 := by rw [ex499]; exact iv_add b8 kc_3 (by decide)
          refine m_sld C hX hbl hbA ⟨by omega, by omega⟩ dL_law_671 ?_
          refine m_eqs (w := x486) (by rw [ex486, show x499.toInt.toNat = x484.toInt.toNat by omega]) ?_
          refine m_callV (n := 3) (ci := 11) (st := []) C (c_X12_two l G τ487 (x480) (x483) (x486) i488 ) (by decide) (by decide) rfl rfl rfl q5_146 q5_143 q5_144 q5_145 q1_7 (by decide +kernel) rfl (by decide) ⟨by show (250 + 8 * y3.toInt.toNat) + 0 ≤ 600000; omega, by show (5300 + 24 * y3.toInt.toNat) + 0 ≤ 7302250; omega⟩ rfl (Nat.le_of_ble_eq_true rfl) dL_law_672 ?_
          rintro _ τ501 ⟨x504, rfl, i502, f503, b505⟩
          have r508 : Rel τ501 := r494.call f503 (by decide) (by decide)
          show MW p l e _ s m _ below meth c _ 4 G (250 + 8 * y3.toInt.toNat) (5300 + 24 * y3.toInt.toNat) 675 [some (.ref b), some (.ref (G.1 0 0)), some (.ref (G.1 22 0)), some (.int y3)] [.int x504] τ501
          refine m_pop C dL_law_675 rfl ?_
          refine m_goto (tgt := 1028) C dL_law_676 (by decide) ?_
          obtain ⟨x509, ex509⟩ : ∃ y : Int32, y = y3 + 6 := ⟨_, rfl⟩
          have tx509 : x509.toInt = y3.toInt + 6 := by rw [ex509, ti_addv b8 kc_6 (by decide), kt_6]
          have b510 : IV x509 6 3072 := by rw [ex509]; exact iv_add b8 kc_6 (by decide)
          refine m_iinc (v := x509) (L1 := [some (.ref b), some (.ref (G.1 0 0)), some (.ref (G.1 22 0)), some (.int x509)]) C dL_law_1028 rfl (by rw [ex509]; rfl) (by decide) rfl rfl ?_
          refine m_goto (tgt := 18) C dL_law_1031 (by decide) ?_
          refine m_widen (c2 := 250 + 8 * x509.toInt.toNat) (s2 := 5300 + 24 * x509.toInt.toNat) (by omega) (by omega) ?_
          exact ih18 τ501 x509 i502 r508 (iv_wk b510 (by decide)) (by have q := hm18; omega)
        by_cases s511 : x11.toInt = 17
        · refine m_tableIn (tgt := 679) (off := 646) C dL_law_33 (by omega) (by omega) (by rw [s511]; rfl) (by decide) ?_
          have b512 : IV x11 17 17 := ⟨by omega, by omega⟩
          refine m_aload_n C dL_law_679 rfl rfl ?_
          refine m_aload_n C dL_law_680 rfl rfl ?_
          refine m_iload_n C dL_law_681 rfl rfl ?_
          refine m_iconst (v := 1) C dL_law_682 (by decide) ?_
          refine m_iadd C dL_law_683 ?_
          refine m_topi (fun x513 ex513 => ?_)
          have tx513 : x513.toInt = y3.toInt + 1 := by rw [ex513, ti_addv b8 kc_1 (by decide), kt_1]
          have b514 : IV x513 1 3067 := by rw [ex513]; exact iv_add b8 kc_1 (by decide)
          refine m_sld C hX hbl hbA ⟨by omega, by omega⟩ dL_law_684 ?_
          refine m_topi (fun x515 ex515 => ?_)
          refine m_callV (n := 1) (ci := 10) (st := []) C (c_X11_stones l G τ (x515) iτ ) (by decide) (by decide) rfl rfl rfl q3_170 q3_167 q3_168 q3_169 q1_1 (by decide +kernel) rfl (by decide) ⟨by show (250 + 8 * y3.toInt.toNat) + 0 ≤ 600000; omega, by show (5300 + 24 * y3.toInt.toNat) + 0 ≤ 7302250; omega⟩ rfl (Nat.le_of_ble_eq_true rfl) dL_law_685 ?_
          rintro _ τ516 ⟨x519, rfl, i517, f518, b520⟩
          have r523 : Rel τ516 := rτ.call f518 (by decide) (by decide)
          show MW p l e _ s m _ below meth c _ 4 G (250 + 8 * y3.toInt.toNat) (5300 + 24 * y3.toInt.toNat) 688 [some (.ref b), some (.ref (G.1 0 0)), some (.ref (G.1 22 0)), some (.int y3)] [.int x519] τ516
          refine m_pop C dL_law_688 rfl ?_
          refine m_aload_n C dL_law_689 rfl rfl ?_
          refine m_aload_n C dL_law_690 rfl rfl ?_
          refine m_iload_n C dL_law_691 rfl rfl ?_
          refine m_iconst (v := 1) C dL_law_692 (by decide) ?_
          refine m_iadd C dL_law_693 ?_
          refine m_topi (fun x524 ex524 => ?_)
          have tx524 : x524.toInt = y3.toInt + 1 := by rw [ex524, ti_addv b8 kc_1 (by decide), kt_1]
          have b525 : IV x524 1 3067 := by rw [ex524]; exact iv_add b8 kc_1 (by decide)
          refine m_sld C hX hbl hbA ⟨by omega, by omega⟩ dL_law_694 ?_
          refine m_eqs (w := x515) (by rw [ex515, show x524.toInt.toNat = x513.toInt.toNat by omega]) ?_
          refine m_callV (n := 1) (ci := 11) (st := []) C (c_X12_stones l G τ516 (x515) i517 ) (by decide) (by decide) rfl rfl rfl q5_150 q5_147 q5_148 q5_149 q1_7 (by decide +kernel) rfl (by decide) ⟨by show (250 + 8 * y3.toInt.toNat) + 0 ≤ 600000; omega, by show (5300 + 24 * y3.toInt.toNat) + 0 ≤ 7302250; omega⟩ rfl (Nat.le_of_ble_eq_true rfl) dL_law_695 ?_
          rintro _ τ526 ⟨x529, rfl, i527, f528, b530⟩
          have r533 : Rel τ526 := r523.call f528 (by decide) (by decide)
          show MW p l e _ s m _ below meth c _ 4 G (250 + 8 * y3.toInt.toNat) (5300 + 24 * y3.toInt.toNat) 698 [some (.ref b), some (.ref (G.1 0 0)), some (.ref (G.1 22 0)), some (.int y3)] [.int x529] τ526
          refine m_pop C dL_law_698 rfl ?_
          refine m_goto (tgt := 1028) C dL_law_699 (by decide) ?_
          obtain ⟨x534, ex534⟩ : ∃ y : Int32, y = y3 + 6 := ⟨_, rfl⟩
          have tx534 : x534.toInt = y3.toInt + 6 := by rw [ex534, ti_addv b8 kc_6 (by decide), kt_6]
          have b535 : IV x534 6 3072 := by rw [ex534]; exact iv_add b8 kc_6 (by decide)
          refine m_iinc (v := x534) (L1 := [some (.ref b), some (.ref (G.1 0 0)), some (.ref (G.1 22 0)), some (.int x534)]) C dL_law_1028 rfl (by rw [ex534]; rfl) (by decide) rfl rfl ?_
          refine m_goto (tgt := 18) C dL_law_1031 (by decide) ?_
          refine m_widen (c2 := 250 + 8 * x534.toInt.toNat) (s2 := 5300 + 24 * x534.toInt.toNat) (by omega) (by omega) ?_
          exact ih18 τ526 x534 i527 r533 (iv_wk b535 (by decide)) (by have q := hm18; omega)
        by_cases s536 : x11.toInt = 18
        · refine m_tableIn (tgt := 702) (off := 669) C dL_law_33 (by omega) (by omega) (by rw [s536]; rfl) (by decide) ?_
          have b537 : IV x11 18 18 := ⟨by omega, by omega⟩
          refine m_aload_n C dL_law_702 rfl rfl ?_
          refine m_aload_n C dL_law_703 rfl rfl ?_
          refine m_iload_n C dL_law_704 rfl rfl ?_
          refine m_iconst (v := 1) C dL_law_705 (by decide) ?_
          refine m_iadd C dL_law_706 ?_
          refine m_topi (fun x538 ex538 => ?_)
          have tx538 : x538.toInt = y3.toInt + 1 := by rw [ex538, ti_addv b8 kc_1 (by decide), kt_1]
          have b539 : IV x538 1 3067 := by rw [ex538]; exact iv_add b8 kc_1 (by decide)
          refine m_sld C hX hbl hbA ⟨by omega, by omega⟩ dL_law_707 ?_
          refine m_topi (fun x540 ex540 => ?_)
          refine m_aload_n C dL_law_708 rfl rfl ?_
          refine m_iload_n C dL_law_709 rfl rfl ?_
          refine m_iconst (v := 2) C dL_law_710 (by decide) ?_
          refine m_iadd C dL_law_711 ?_
          refine m_topi (fun x541 ex541 => ?_)
          have tx541 : x541.toInt = y3.toInt + 2 := by rw [ex541, ti_addv b8 kc_2 (by decide), kt_2]
          have b542 : IV x541 2 3068 := by rw [ex541]; exact iv_add b8 kc_2 (by decide)
          refine m_sld C hX hbl hbA ⟨by omega, by omega⟩ dL_law_712 ?_
          refine m_topi (fun x543 ex543 => ?_)
          refine m_aload_n C dL_law_713 rfl rfl ?_
          refine m_iload_n C dL_law_714 rfl rfl ?_
          refine m_iconst (v := 3) C dL_law_715 (by decide) ?_
          refine m_iadd C dL_law_716 ?_
          refine m_topi (fun x544 ex544 => ?_)
          have tx544 : x544.toInt = y3.toInt + 3 := by rw [ex544, ti_addv b8 kc_3 (by decide), kt_3]
          have b545 : IV x544 3 3069 := by rw [ex544]; exact iv_add b8 kc_3 (by decide)
          refine m_sld C hX hbl hbA ⟨by omega, by omega⟩ dL_law_717 ?_
          refine m_topi (fun x546 ex546 => ?_)
          refine m_aload_n C dL_law_718 rfl rfl ?_
          refine m_iload_n C dL_law_719 rfl rfl ?_
          refine m_iconst (v := 4) C dL_law_720 (by decide) ?_
          refine m_iadd C dL_law_721 ?_
          refine m_topi (fun x547 ex547 => ?_)
          have tx547 : x547.toInt = y3.toInt + 4 := by rw [ex547, ti_addv b8 kc_4 (by decide), kt_4]
          have b548 : IV x547 4 3070 := by rw [ex547]; exact iv_add b8 kc_4 (by decide)
          refine m_sld C hX hbl hbA ⟨by omega, by omega⟩ dL_law_722 ?_
          refine m_topi (fun x549 ex549 => ?_)
          refine m_callV (n := 4) (ci := 10) (st := []) C (c_X11_marks l G τ (x540) (x543) (x546) (x549) iτ ) (by decide) (by decide) rfl rfl rfl q3_187 q3_184 q3_185 q3_186 q1_1 (by decide +kernel) rfl (by decide) ⟨by show (250 + 8 * y3.toInt.toNat) + 0 ≤ 600000; omega, by show (5300 + 24 * y3.toInt.toNat) + 0 ≤ 7302250; omega⟩ rfl (Nat.le_of_ble_eq_true rfl) dL_law_723 ?_
          rintro _ τ550 ⟨x553, rfl, i551, f552, b554⟩
          have r557 : Rel τ550 := rτ.call f552 (by decide) (by decide)
          show MW p l e _ s m _ below meth c _ 4 G (250 + 8 * y3.toInt.toNat) (5300 + 24 * y3.toInt.toNat) 726 [some (.ref b), some (.ref (G.1 0 0)), some (.ref (G.1 22 0)), some (.int y3)] [.int x553] τ550
          refine m_pop C dL_law_726 rfl ?_
          refine m_aload_n C dL_law_727 rfl rfl ?_
          refine m_aload_n C dL_law_728 rfl rfl ?_
          refine m_iload_n C dL_law_729 rfl rfl ?_
          refine m_iconst (v := 1) C dL_law_730 (by decide) ?_
          refine m_iadd C dL_law_731 ?_
          refine m_topi (fun x558 ex558 => ?_)
          have tx558 : x558.toInt = y3.toInt + 1 := by rw [ex558, ti_addv b8 kc_1 (by decide), kt_1]
          have b559 : IV x558 1 3067 := by rw [ex558]; exact iv_add b8 kc_1 (by decide)
          refine m_sld C hX hbl hbA ⟨by omega, by omega⟩ dL_law_732 ?_
          refine m_eqs (w := x540) (by rw [ex540, show x558.toInt.toNat = x538.toInt.toNat by omega]) ?_
          refine m_aload_n C dL_law_733 rfl rfl ?_
          refine m_iload_n C dL_law_734 rfl rfl ?_
          refine m_iconst (v := 2) C dL_law_735 (by decide) ?_
          refine m_iadd C dL_law_736 ?_
          refine m_topi (fun x560 ex560 => ?_)
          have tx560 : x560.toInt = y3.toInt + 2 := by rw [ex560, ti_addv b8 kc_2 (by decide), kt_2]
          have b561 : IV x560 2 3068 := by rw [ex560]; exact iv_add b8 kc_2 (by decide)
          refine m_sld C hX hbl hbA ⟨by omega, by omega⟩ dL_law_737 ?_
          refine m_eqs (w := x543) (by rw [ex543, show x560.toInt.toNat = x541.toInt.toNat by omega]) ?_
          refine m_aload_n C dL_law_738 rfl rfl ?_
          refine m_iload_n C dL_law_739 rfl rfl ?_
          refine m_iconst (v := 3) C dL_law_740 (by decide) ?_
          refine m_iadd C dL_law_741 ?_
          refine m_topi (fun x562 ex562 => ?_)
          have tx562 : x562.toInt = y3.toInt + 3 := by rw [ex562, ti_addv b8 kc_3 (by decide), kt_3]
          have b563 : IV x562 3 3069 := by rw [ex562]; exact iv_add b8 kc_3 (by decide)
          refine m_sld C hX hbl hbA ⟨by omega, by omega⟩ dL_law_742 ?_
          refine m_eqs (w := x546) (by rw [ex546, show x562.toInt.toNat = x544.toInt.toNat by omega]) ?_
          refine m_aload_n C dL_law_743 rfl rfl ?_
          refine m_iload_n C dL_law_744 rfl rfl ?_
          refine m_iconst (v := 4) C dL_law_745 (by decide) ?_
          refine m_iadd C dL_law_746 ?_
          refine m_topi (fun x564 ex564 => ?_)
          have tx564 : x564.toInt = y3.toInt + 4 := by rw [ex564, ti_addv b8 kc_4 (by decide), kt_4]
          have b565 : IV x564 4 3070 := by rw [ex564]; exact iv_add b8 kc_4 (by decide)
          refine m_sld C hX hbl hbA ⟨by omega, by omega⟩ dL_law_747 ?_
          refine m_eqs (w := x549) (by rw [ex549, show x564.toInt.toNat = x547.toInt.toNat by omega]) ?_
          refine m_callV (n := 4) (ci := 11) (st := []) C (c_X12_marks l G τ550 (x540) (x543) (x546) (x549) i551 ) (by decide) (by decide) rfl rfl rfl q5_154 q5_151 q5_152 q5_153 q1_7 (by decide +kernel) rfl (by decide) ⟨by show (250 + 8 * y3.toInt.toNat) + 0 ≤ 600000; omega, by show (5300 + 24 * y3.toInt.toNat) + 0 ≤ 7302250; omega⟩ rfl (Nat.le_of_ble_eq_true rfl) dL_law_748 ?_
          rintro _ τ566 ⟨x569, rfl, i567, f568, b570⟩
          have r573 : Rel τ566 := r557.call f568 (by decide) (by decide)
          show MW p l e _ s m _ below meth c _ 4 G (250 + 8 * y3.toInt.toNat) (5300 + 24 * y3.toInt.toNat) 751 [some (.ref b), some (.ref (G.1 0 0)), some (.ref (G.1 22 0)), some (.int y3)] [.int x569] τ566
          refine m_pop C dL_law_751 rfl ?_
          refine m_goto (tgt := 1028) C dL_law_752 (by decide) ?_
          obtain ⟨x574, ex574⟩ : ∃ y : Int32, y = y3 + 6 := ⟨_, rfl⟩
          have tx574 : x574.toInt = y3.toInt + 6 := by rw [ex574, ti_addv b8 kc_6 (by decide), kt_6]
          have b575 : IV x574 6 3072 := by rw [ex574]; exact iv_add b8 kc_6 (by decide)
          refine m_iinc (v := x574) (L1 := [some (.ref b), some (.ref (G.1 0 0)), some (.ref (G.1 22 0)), some (.int x574)]) C dL_law_1028 rfl (by rw [ex574]; rfl) (by decide) rfl rfl ?_
          refine m_goto (tgt := 18) C dL_law_1031 (by decide) ?_
          refine m_widen (c2 := 250 + 8 * x574.toInt.toNat) (s2 := 5300 + 24 * x574.toInt.toNat) (by omega) (by omega) ?_
          exact ih18 τ566 x574 i567 r573 (iv_wk b575 (by decide)) (by have q := hm18; omega)
        by_cases s576 : x11.toInt = 19
        · refine m_tableIn (tgt := 755) (off := 722) C dL_law_33 (by omega) (by omega) (by rw [s576]; rfl) (by decide) ?_
          have b577 : IV x11 19 19 := ⟨by omega, by omega⟩
          refine m_aload_n C dL_law_755 rfl rfl ?_
          refine m_aload_n C dL_law_756 rfl rfl ?_
          refine m_iload_n C dL_law_757 rfl rfl ?_
          refine m_iconst (v := 1) C dL_law_758 (by decide) ?_
          refine m_iadd C dL_law_759 ?_
          refine m_topi (fun x578 ex578 => ?_)
          have tx578 : x578.toInt = y3.toInt + 1 := by rw [ex578, ti_addv b8 kc_1 (by decide), kt_1]
          have b579 : IV x578 1 3067 := by rw [ex578]; exact iv_add b8 kc_1 (by decide)
          refine m_sld C hX hbl hbA ⟨by omega, by omega⟩ dL_law_760 ?_
          refine m_topi (fun x580 ex580 => ?_)
          refine m_callV (n := 1) (ci := 10) (st := []) C (c_X11_rescue l G τ (x580) iτ ) (by decide) (by decide) rfl rfl rfl q3_202 q3_199 q3_200 q3_201 q1_1 (by decide +kernel) rfl (by decide) ⟨by show (250 + 8 * y3.toInt.toNat) + 0 ≤ 600000; omega, by show (5300 + 24 * y3.toInt.toNat) + 0 ≤ 7302250; omega⟩ rfl (Nat.le_of_ble_eq_true rfl) dL_law_761 ?_
          rintro _ τ581 ⟨x584, rfl, i582, f583, b585⟩
          have r588 : Rel τ581 := rτ.call f583 (by decide) (by decide)
          show MW p l e _ s m _ below meth c _ 4 G (250 + 8 * y3.toInt.toNat) (5300 + 24 * y3.toInt.toNat) 764 [some (.ref b), some (.ref (G.1 0 0)), some (.ref (G.1 22 0)), some (.int y3)] [.int x584] τ581
          refine m_pop C dL_law_764 rfl ?_
          refine m_aload_n C dL_law_765 rfl rfl ?_
          refine m_aload_n C dL_law_766 rfl rfl ?_
          refine m_iload_n C dL_law_767 rfl rfl ?_
          refine m_iconst (v := 1) C dL_law_768 (by decide) ?_
          refine m_iadd C dL_law_769 ?_
          refine m_topi (fun x589 ex589 => ?_)
          have tx589 : x589.toInt = y3.toInt + 1 := by rw [ex589, ti_addv b8 kc_1 (by decide), kt_1]
          have b590 : IV x589 1 3067 := by rw [ex589]; exact iv_add b8 kc_1 (by decide)
          refine m_sld C hX hbl hbA ⟨by omega, by omega⟩ dL_law_770 ?_
          refine m_eqs (w := x580) (by rw [ex580, show x589.toInt.toNat = x578.toInt.toNat by omega]) ?_
          refine m_callV (n := 1) (ci := 11) (st := []) C (c_X12_rescue l G τ581 (x580) i582 ) (by decide) (by decide) rfl rfl rfl q5_160 q5_157 q5_158 q5_159 q1_7 (by decide +kernel) rfl (by decide) ⟨by show (250 + 8 * y3.toInt.toNat) + 0 ≤ 600000; omega, by show (5300 + 24 * y3.toInt.toNat) + 0 ≤ 7302250; omega⟩ rfl (Nat.le_of_ble_eq_true rfl) dL_law_771 ?_
          rintro _ τ591 ⟨x594, rfl, i592, f593, b595⟩
          have r598 : Rel τ591 := r588.call f593 (by decide) (by decide)
          show MW p l e _ s m _ below meth c _ 4 G (250 + 8 * y3.toInt.toNat) (5300 + 24 * y3.toInt.toNat) 774 [some (.ref b), some (.ref (G.1 0 0)), some (.ref (G.1 22 0)), some (.int y3)] [.int x594] τ591
          refine m_pop C dL_law_774 rfl ?_
          refine m_goto (tgt := 1028) C dL_law_775 (by decide) ?_
          obtain ⟨x599, ex599⟩ : ∃ y : Int32, y = y3 + 6 := ⟨_, rfl⟩
          have tx599 : x599.toInt = y3.toInt + 6 := by rw [ex599, ti_addv b8 kc_6 (by decide), kt_6]
          have b600 : IV x599 6 3072 := by rw [ex599]; exact iv_add b8 kc_6 (by decide)
          refine m_iinc (v := x599) (L1 := [some (.ref b), some (.ref (G.1 0 0)), some (.ref (G.1 22 0)), some (.int x599)]) C dL_law_1028 rfl (by rw [ex599]; rfl) (by decide) rfl rfl ?_
          refine m_goto (tgt := 18) C dL_law_1031 (by decide) ?_
          refine m_widen (c2 := 250 + 8 * x599.toInt.toNat) (s2 := 5300 + 24 * x599.toInt.toNat) (by omega) (by omega) ?_
          exact ih18 τ591 x599 i592 r598 (iv_wk b600 (by decide)) (by have q := hm18; omega)
        by_cases s601 : x11.toInt = 20
        · refine m_tableIn (tgt := 778) (off := 745) C dL_law_33 (by omega) (by omega) (by rw [s601]; rfl) (by decide) ?_
          have b602 : IV x11 20 20 := ⟨by omega, by omega⟩
          refine m_aload_n C dL_law_778 rfl rfl ?_
          refine m_callV (n := 0) (ci := 10) (st := []) C (c_X11_fall l G τ  iτ ) (by decide) (by decide) rfl rfl rfl q3_220 q3_217 q3_218 q3_219 q1_1 (by decide +kernel) rfl (by decide) ⟨by show (250 + 8 * y3.toInt.toNat) + 0 ≤ 600000; omega, by show (5300 + 24 * y3.toInt.toNat) + 0 ≤ 7302250; omega⟩ rfl (Nat.le_of_ble_eq_true rfl) dL_law_779 ?_
          rintro _ τ603 ⟨x606, rfl, i604, f605, b607⟩
          have r610 : Rel τ603 := rτ.call f605 (by decide) (by decide)
          show MW p l e _ s m _ below meth c _ 4 G (250 + 8 * y3.toInt.toNat) (5300 + 24 * y3.toInt.toNat) 782 [some (.ref b), some (.ref (G.1 0 0)), some (.ref (G.1 22 0)), some (.int y3)] [.int x606] τ603
          refine m_pop C dL_law_782 rfl ?_
          refine m_aload_n C dL_law_783 rfl rfl ?_
          refine m_callV (n := 0) (ci := 11) (st := []) C (c_X12_fall l G τ603  i604 ) (by decide) (by decide) rfl rfl rfl q5_168 q5_165 q5_166 q5_167 q1_7 (by decide +kernel) rfl (by decide) ⟨by show (250 + 8 * y3.toInt.toNat) + 0 ≤ 600000; omega, by show (5300 + 24 * y3.toInt.toNat) + 0 ≤ 7302250; omega⟩ rfl (Nat.le_of_ble_eq_true rfl) dL_law_784 ?_
          rintro _ τ611 ⟨x614, rfl, i612, f613, b615⟩
          have r618 : Rel τ611 := r610.call f613 (by decide) (by decide)
          show MW p l e _ s m _ below meth c _ 4 G (250 + 8 * y3.toInt.toNat) (5300 + 24 * y3.toInt.toNat) 787 [some (.ref b), some (.ref (G.1 0 0)), some (.ref (G.1 22 0)), some (.int y3)] [.int x614] τ611
          refine m_pop C dL_law_787 rfl ?_
          refine m_goto (tgt := 1028) C dL_law_788 (by decide) ?_
          obtain ⟨x619, ex619⟩ : ∃ y : Int32, y = y3 + 6 := ⟨_, rfl⟩
          have tx619 : x619.toInt = y3.toInt + 6 := by rw [ex619, ti_addv b8 kc_6 (by decide), kt_6]
          have b620 : IV x619 6 3072 := by rw [ex619]; exact iv_add b8 kc_6 (by decide)
          refine m_iinc (v := x619) (L1 := [some (.ref b), some (.ref (G.1 0 0)), some (.ref (G.1 22 0)), some (.int x619)]) C dL_law_1028 rfl (by rw [ex619]; rfl) (by decide) rfl rfl ?_
          refine m_goto (tgt := 18) C dL_law_1031 (by decide) ?_
          refine m_widen (c2 := 250 + 8 * x619.toInt.toNat) (s2 := 5300 + 24 * x619.toInt.toNat) (by omega) (by omega) ?_
          exact ih18 τ611 x619 i612 r618 (iv_wk b620 (by decide)) (by have q := hm18; omega)
        by_cases s621 : x11.toInt = 21
        · refine m_tableIn (tgt := 791) (off := 758) C dL_law_33 (by omega) (by omega) (by rw [s621]; rfl) (by decide) ?_
          have b622 : IV x11 21 21 := ⟨by omega, by omega⟩
          refine m_aload_n C dL_law_791 rfl rfl ?_
          refine m_aload_n C dL_law_792 rfl rfl ?_
          refine m_iload_n C dL_law_793 rfl rfl ?_
          refine m_iconst (v := 1) C dL_law_794 (by decide) ?_
          refine m_iadd C dL_law_795 ?_
          refine m_topi (fun x623 ex623 => ?_)
          have tx623 : x623.toInt = y3.toInt + 1 := by rw [ex623, ti_addv b8 kc_1 (by decide), kt_1]
          have b624 : IV x623 1 3067 := by rw [ex623]; exact iv_add b8 kc_1 (by decide)
          refine m_sld C hX hbl hbA ⟨by omega, by omega⟩ dL_law_796 ?_
          refine m_topi (fun x625 ex625 => ?_)
          refine m_aload_n C dL_law_797 rfl rfl ?_
          refine m_iload_n C dL_law_798 rfl rfl ?_
          refine m_iconst (v := 2) C dL_law_799 (by decide) ?_
          refine m_iadd C dL_law_800 ?_
          refine m_topi (fun x626 ex626 => ?_)
          have tx626 : x626.toInt = y3.toInt + 2 := by rw [ex626, ti_addv b8 kc_2 (by decide), kt_2]
          have b627 : IV x626 2 3068 := by rw [ex626]; exact iv_add b8 kc_2 (by decide)
          refine m_sld C hX hbl hbA ⟨by omega, by omega⟩ dL_law_801 ?_
          refine m_topi (fun x628 ex628 => ?_)
          refine m_aload_n C dL_law_802 rfl rfl ?_
          refine m_iload_n C dL_law_803 rfl rfl ?_
          refine m_iconst (v := 3) C dL_law_804 (by decide) ?_
          refine m_iadd C dL_law_805 ?_
          refine m_topi (fun x629 ex629 => ?_)
          have tx629 : x629.toInt = y3.toInt + 3 := by rw [ex629, ti_addv b8 kc_3 (by decide), kt_3]
          have b630 : IV x629 3 3069 := by rw [ex629]; exact iv_add b8 kc_3 (by decide)
          refine m_sld C hX hbl hbA ⟨by omega, by omega⟩ dL_law_806 ?_
          refine m_topi (fun x631 ex631 => ?_)
          refine m_callV (n := 3) (ci := 10) (st := []) C (c_X11_bells l G τ (x625) (x628) (x631) iτ ) (by decide) (by decide) rfl rfl rfl q3_224 q3_221 q3_222 q3_223 q1_1 (by decide +kernel) rfl (by decide) ⟨by show (250 + 8 * y3.toInt.toNat) + 0 ≤ 600000; omega, by show (5300 + 24 * y3.toInt.toNat) + 0 ≤ 7302250; omega⟩ rfl (Nat.le_of_ble_eq_true rfl) dL_law_807 ?_
          rintro _ τ632 ⟨x635, rfl, i633, f634, b636⟩
          have r639 : Rel τ632 := rτ.call f634 (by decide) (by decide)
          show MW p l e _ s m _ below meth c _ 4 G (250 + 8 * y3.toInt.toNat) (5300 + 24 * y3.toInt.toNat) 810 [some (.ref b), some (.ref (G.1 0 0)), some (.ref (G.1 22 0)), some (.int y3)] [.int x635] τ632
          refine m_pop C dL_law_810 rfl ?_
          refine m_aload_n C dL_law_811 rfl rfl ?_
          refine m_aload_n C dL_law_812 rfl rfl ?_
          refine m_iload_n C dL_law_813 rfl rfl ?_
          refine m_iconst (v := 1) C dL_law_814 (by decide) ?_
          refine m_iadd C dL_law_815 ?_
          refine m_topi (fun x640 ex640 => ?_)
          have tx640 : x640.toInt = y3.toInt + 1 := by rw [ex640, ti_addv b8 kc_1 (by decide), kt_1]
          have b641 : IV x640 1 3067 := by rw [ex640]; exact iv_add b8 kc_1 (by decide)
          refine m_sld C hX hbl hbA ⟨by omega, by omega⟩ dL_law_816 ?_
          refine m_eqs (w := x625) (by rw [ex625, show x640.toInt.toNat = x623.toInt.toNat by omega]) ?_
          refine m_aload_n C dL_law_817 rfl rfl ?_
          refine m_iload_n C dL_law_818 rfl rfl ?_
          refine m_iconst (v := 2) C dL_law_819 (by decide) ?_
          refine m_iadd C dL_law_820 ?_
          refine m_topi (fun x642 ex642 => ?_)
          have tx642 : x642.toInt = y3.toInt + 2 := by rw [ex642, ti_addv b8 kc_2 (by decide), kt_2]
          have b643 : IV x642 2 3068 := by rw [ex642]; exact iv_add b8 kc_2 (by decide)
          refine m_sld C hX hbl hbA ⟨by omega, by omega⟩ dL_law_821 ?_
          refine m_eqs (w := x628) (by rw [ex628, show x642.toInt.toNat = x626.toInt.toNat by omega]) ?_
          refine m_aload_n C dL_law_822 rfl rfl ?_
          refine m_iload_n C dL_law_823 rfl rfl ?_
          refine m_iconst (v := 3) C dL_law_824 (by decide) ?_
          refine m_iadd C dL_law_825 ?_
          refine m_topi (fun x644 ex644 => ?_)
          have tx644 : x644.toInt = y3.toInt + 3 := by rw [ex644, ti_addv b8 kc_3 (by decide), kt_3]
          have b645 : IV x644 3 3069 := by rw [ex644]; exact iv_add b8 kc_3 (by decide)
          refine m_sld C hX hbl hbA ⟨by omega, by omega⟩ dL_law_826 ?_
          refine m_eqs (w := x631) (by rw [ex631, show x644.toInt.toNat = x629.toInt.toNat by omega]) ?_
          refine m_callV (n := 3) (ci := 11) (st := []) C (c_X12_bells l G τ632 (x625) (x628) (x631) i633 ) (by decide) (by decide) rfl rfl rfl q5_172 q5_169 q5_170 q5_171 q1_7 (by decide +kernel) rfl (by decide) ⟨by show (250 + 8 * y3.toInt.toNat) + 0 ≤ 600000; omega, by show (5300 + 24 * y3.toInt.toNat) + 0 ≤ 7302250; omega⟩ rfl (Nat.le_of_ble_eq_true rfl) dL_law_827 ?_
          rintro _ τ646 ⟨x649, rfl, i647, f648, b650⟩
          have r653 : Rel τ646 := r639.call f648 (by decide) (by decide)
          show MW p l e _ s m _ below meth c _ 4 G (250 + 8 * y3.toInt.toNat) (5300 + 24 * y3.toInt.toNat) 830 [some (.ref b), some (.ref (G.1 0 0)), some (.ref (G.1 22 0)), some (.int y3)] [.int x649] τ646
          refine m_pop C dL_law_830 rfl ?_
          refine m_goto (tgt := 1028) C dL_law_831 (by decide) ?_
          obtain ⟨x654, ex654⟩ : ∃ y : Int32, y = y3 + 6 := ⟨_, rfl⟩
          have tx654 : x654.toInt = y3.toInt + 6 := by rw [ex654, ti_addv b8 kc_6 (by decide), kt_6]
          have b655 : IV x654 6 3072 := by rw [ex654]; exact iv_add b8 kc_6 (by decide)
          refine m_iinc (v := x654) (L1 := [some (.ref b), some (.ref (G.1 0 0)), some (.ref (G.1 22 0)), some (.int x654)]) C dL_law_1028 rfl (by rw [ex654]; rfl) (by decide) rfl rfl ?_
          refine m_goto (tgt := 18) C dL_law_1031 (by decide) ?_
          refine m_widen (c2 := 250 + 8 * x654.toInt.toNat) (s2 := 5300 + 24 * x654.toInt.toNat) (by omega) (by omega) ?_
          exact ih18 τ646 x654 i647 r653 (iv_wk b655 (by decide)) (by have q := hm18; omega)
        by_cases s656 : x11.toInt = 22
        · refine m_tableIn (tgt := 834) (off := 801) C dL_law_33 (by omega) (by omega) (by rw [s656]; rfl) (by decide) ?_
          have b657 : IV x11 22 22 := ⟨by omega, by omega⟩
          refine m_aload_n C dL_law_834 rfl rfl ?_
          refine m_aload_n C dL_law_835 rfl rfl ?_
          refine m_iload_n C dL_law_836 rfl rfl ?_
          refine m_iconst (v := 1) C dL_law_837 (by decide) ?_
          refine m_iadd C dL_law_838 ?_
          refine m_topi (fun x658 ex658 => ?_)
          have tx658 : x658.toInt = y3.toInt + 1 := by rw [ex658, ti_addv b8 kc_1 (by decide), kt_1]
          have b659 : IV x658 1 3067 := by rw [ex658]; exact iv_add b8 kc_1 (by decide)
          refine m_sld C hX hbl hbA ⟨by omega, by omega⟩ dL_law_839 ?_
          refine m_topi (fun x660 ex660 => ?_)
          refine m_callV (n := 1) (ci := 10) (st := []) C (c_X11_image l G τ (x660) iτ ) (by decide) (by decide) rfl rfl rfl q4_0 q3_237 q3_238 q3_239 q1_1 (by decide +kernel) rfl (by decide) ⟨by show (250 + 8 * y3.toInt.toNat) + 0 ≤ 600000; omega, by show (5300 + 24 * y3.toInt.toNat) + 0 ≤ 7302250; omega⟩ rfl (Nat.le_of_ble_eq_true rfl) dL_law_840 ?_
          rintro _ τ661 ⟨x664, rfl, i662, f663, b665⟩
          have r668 : Rel τ661 := rτ.call f663 (by decide) (by decide)
          show MW p l e _ s m _ below meth c _ 4 G (250 + 8 * y3.toInt.toNat) (5300 + 24 * y3.toInt.toNat) 843 [some (.ref b), some (.ref (G.1 0 0)), some (.ref (G.1 22 0)), some (.int y3)] [.int x664] τ661
          refine m_pop C dL_law_843 rfl ?_
          refine m_aload_n C dL_law_844 rfl rfl ?_
          refine m_aload_n C dL_law_845 rfl rfl ?_
          refine m_iload_n C dL_law_846 rfl rfl ?_
          refine m_iconst (v := 1) C dL_law_847 (by decide) ?_
          refine m_iadd C dL_law_848 ?_
          refine m_topi (fun x669 ex669 => ?_)
          have tx669 : x669.toInt = y3.toInt + 1 := by rw [ex669, ti_addv b8 kc_1 (by decide), kt_1]
          have b670 : IV x669 1 3067 := by rw [ex669]; exact iv_add b8 kc_1 (by decide)
          refine m_sld C hX hbl hbA ⟨by omega, by omega⟩ dL_law_849 ?_
          refine m_eqs (w := x660) (by rw [ex660, show x669.toInt.toNat = x658.toInt.toNat by omega]) ?_
          refine m_callV (n := 1) (ci := 11) (st := []) C (c_X12_image l G τ661 (x660) i662 ) (by decide) (by decide) rfl rfl rfl q5_178 q5_175 q5_176 q5_177 q1_7 (by decide +kernel) rfl (by decide) ⟨by show (250 + 8 * y3.toInt.toNat) + 0 ≤ 600000; omega, by show (5300 + 24 * y3.toInt.toNat) + 0 ≤ 7302250; omega⟩ rfl (Nat.le_of_ble_eq_true rfl) dL_law_850 ?_
          rintro _ τ671 ⟨x674, rfl, i672, f673, b675⟩
          have r678 : Rel τ671 := r668.call f673 (by decide) (by decide)
          show MW p l e _ s m _ below meth c _ 4 G (250 + 8 * y3.toInt.toNat) (5300 + 24 * y3.toInt.toNat) 853 [some (.ref b), some (.ref (G.1 0 0)), some (.ref (G.1 22 0)), some (.int y3)] [.int x674] τ671
          refine m_pop C dL_law_853 rfl ?_
          refine m_goto (tgt := 1028) C dL_law_854 (by decide) ?_
          obtain ⟨x679, ex679⟩ : ∃ y : Int32, y = y3 + 6 := ⟨_, rfl⟩
          have tx679 : x679.toInt = y3.toInt + 6 := by rw [ex679, ti_addv b8 kc_6 (by decide), kt_6]
          have b680 : IV x679 6 3072 := by rw [ex679]; exact iv_add b8 kc_6 (by decide)
          refine m_iinc (v := x679) (L1 := [some (.ref b), some (.ref (G.1 0 0)), some (.ref (G.1 22 0)), some (.int x679)]) C dL_law_1028 rfl (by rw [ex679]; rfl) (by decide) rfl rfl ?_
          refine m_goto (tgt := 18) C dL_law_1031 (by decide) ?_
          refine m_widen (c2 := 250 + 8 * x679.toInt.toNat) (s2 := 5300 + 24 * x679.toInt.toNat) (by omega) (by omega) ?_
          exact ih18 τ671 x679 i672 r678 (iv_wk b680 (by decide)) (by have q := hm18; omega)
        by_cases s681 : x11.toInt = 23
        · refine m_tableIn (tgt := 857) (off := 824) C dL_law_33 (by omega) (by omega) (by rw [s681]; rfl) (by decide) ?_
          have b682 : IV x11 23 23 := ⟨by omega, by omega⟩
          refine m_aload_n C dL_law_857 rfl rfl ?_
          refine m_aload_n C dL_law_858 rfl rfl ?_
          refine m_iload_n C dL_law_859 rfl rfl ?_
          refine m_iconst (v := 1) C dL_law_860 (by decide) ?_
          refine m_iadd C dL_law_861 ?_
          refine m_topi (fun x683 ex683 => ?_)
          have tx683 : x683.toInt = y3.toInt + 1 := by rw [ex683, ti_addv b8 kc_1 (by decide), kt_1]
          have b684 : IV x683 1 3067 := by rw [ex683]; exact iv_add b8 kc_1 (by decide)
          refine m_sld C hX hbl hbA ⟨by omega, by omega⟩ dL_law_862 ?_
          refine m_topi (fun x685 ex685 => ?_)
          refine m_callV (n := 1) (ci := 10) (st := []) C (c_X11_restore l G τ (x685) iτ ) (by decide) (by decide) rfl rfl rfl q4_4 q4_1 q4_2 q4_3 q1_1 (by decide +kernel) rfl (by decide) ⟨by show (250 + 8 * y3.toInt.toNat) + 0 ≤ 600000; omega, by show (5300 + 24 * y3.toInt.toNat) + 0 ≤ 7302250; omega⟩ rfl (Nat.le_of_ble_eq_true rfl) dL_law_863 ?_
          rintro _ τ686 ⟨x689, rfl, i687, f688, b690⟩
          have r693 : Rel τ686 := rτ.call f688 (by decide) (by decide)
          show MW p l e _ s m _ below meth c _ 4 G (250 + 8 * y3.toInt.toNat) (5300 + 24 * y3.toInt.toNat) 866 [some (.ref b), some (.ref (G.1 0 0)), some (.ref (G.1 22 0)), some (.int y3)] [.int x689] τ686
          refine m_pop C dL_law_866 rfl ?_
          refine m_aload_n C dL_law_867 rfl rfl ?_
          refine m_aload_n C dL_law_868 rfl rfl ?_
          refine m_iload_n C dL_law_869 rfl rfl ?_
          refine m_iconst (v := 1) C dL_law_870 (by decide) ?_
          refine m_iadd C dL_law_871 ?_
          refine m_topi (fun x694 ex694 => ?_)
          have tx694 : x694.toInt = y3.toInt + 1 := by rw [ex694, ti_addv b8 kc_1 (by decide), kt_1]
          have b695 : IV x694 1 3067 := by rw [ex694]; exact iv_add b8 kc_1 (by decide)
          refine m_sld C hX hbl hbA ⟨by omega, by omega⟩ dL_law_872 ?_
          refine m_eqs (w := x685) (by rw [ex685, show x694.toInt.toNat = x683.toInt.toNat by omega]) ?_
          refine m_callV (n := 1) (ci := 11) (st := []) C (c_X12_restore l G τ686 (x685) i687 ) (by decide) (by decide) rfl rfl rfl q5_182 q5_179 q5_180 q5_181 q1_7 (by decide +kernel) rfl (by decide) ⟨by show (250 + 8 * y3.toInt.toNat) + 0 ≤ 600000; omega, by show (5300 + 24 * y3.toInt.toNat) + 0 ≤ 7302250; omega⟩ rfl (Nat.le_of_ble_eq_true rfl) dL_law_873 ?_
          rintro _ τ696 ⟨x699, rfl, i697, f698, b700⟩
          have r703 : Rel τ696 := r693.call f698 (by decide) (by decide)
          show MW p l e _ s m _ below meth c _ 4 G (250 + 8 * y3.toInt.toNat) (5300 + 24 * y3.toInt.toNat) 876 [some (.ref b), some (.ref (G.1 0 0)), some (.ref (G.1 22 0)), some (.int y3)] [.int x699] τ696
          refine m_pop C dL_law_876 rfl ?_
          refine m_goto (tgt := 1028) C dL_law_877 (by decide) ?_
          obtain ⟨x704, ex704⟩ : ∃ y : Int32, y = y3 + 6 := ⟨_, rfl⟩
          have tx704 : x704.toInt = y3.toInt + 6 := by rw [ex704, ti_addv b8 kc_6 (by decide), kt_6]
          have b705 : IV x704 6 3072 := by rw [ex704]; exact iv_add b8 kc_6 (by decide)
          refine m_iinc (v := x704) (L1 := [some (.ref b), some (.ref (G.1 0 0)), some (.ref (G.1 22 0)), some (.int x704)]) C dL_law_1028 rfl (by rw [ex704]; rfl) (by decide) rfl rfl ?_
          refine m_goto (tgt := 18) C dL_law_1031 (by decide) ?_
          refine m_widen (c2 := 250 + 8 * x704.toInt.toNat) (s2 := 5300 + 24 * x704.toInt.toNat) (by omega) (by omega) ?_
          exact ih18 τ696 x704 i697 r703 (iv_wk b705 (by decide)) (by have q := hm18; omega)
        by_cases s706 : x11.toInt = 24
        · refine m_tableIn (tgt := 880) (off := 847) C dL_law_33 (by omega) (by omega) (by rw [s706]; rfl) (by decide) ?_
          have b707 : IV x11 24 24 := ⟨by omega, by omega⟩
          refine m_aload_n C dL_law_880 rfl rfl ?_
          refine m_aload_n C dL_law_881 rfl rfl ?_
          refine m_iload_n C dL_law_882 rfl rfl ?_
          refine m_iconst (v := 1) C dL_law_883 (by decide) ?_
          refine m_iadd C dL_law_884 ?_
          refine m_topi (fun x708 ex708 => ?_)
          have tx708 : x708.toInt = y3.toInt + 1 := by rw [ex708, ti_addv b8 kc_1 (by decide), kt_1]
          have b709 : IV x708 1 3067 := by rw [ex708]; exact iv_add b8 kc_1 (by decide)
          refine m_sld C hX hbl hbA ⟨by omega, by omega⟩ dL_law_885 ?_
          refine m_topi (fun x710 ex710 => ?_)
          refine m_callV (n := 1) (ci := 10) (st := []) C (c_X11_kind l G τ (x710) iτ ) (by decide) (by decide) rfl rfl rfl q4_8 q4_5 q4_6 q4_7 q1_1 (by decide +kernel) rfl (by decide) ⟨by show (250 + 8 * y3.toInt.toNat) + 0 ≤ 600000; omega, by show (5300 + 24 * y3.toInt.toNat) + 0 ≤ 7302250; omega⟩ rfl (Nat.le_of_ble_eq_true rfl) dL_law_886 ?_
          rintro _ τ711 ⟨x714, rfl, i712, f713, b715⟩
          have r718 : Rel τ711 := rτ.call f713 (by decide) (by decide)
          show MW p l e _ s m _ below meth c _ 4 G (250 + 8 * y3.toInt.toNat) (5300 + 24 * y3.toInt.toNat) 889 [some (.ref b), some (.ref (G.1 0 0)), some (.ref (G.1 22 0)), some (.int y3)] [.int x714] τ711
          refine m_pop C dL_law_889 rfl ?_
          refine m_aload_n C dL_law_890 rfl rfl ?_
          refine m_aload_n C dL_law_891 rfl rfl ?_
          refine m_iload_n C dL_law_892 rfl rfl ?_
          refine m_iconst (v := 1) C dL_law_893 (by decide) ?_
          refine m_iadd C dL_law_894 ?_
          refine m_topi (fun x719 ex719 => ?_)
          have tx719 : x719.toInt = y3.toInt + 1 := by rw [ex719, ti_addv b8 kc_1 (by decide), kt_1]
          have b720 : IV x719 1 3067 := by rw [ex719]; exact iv_add b8 kc_1 (by decide)
          refine m_sld C hX hbl hbA ⟨by omega, by omega⟩ dL_law_895 ?_
          refine m_eqs (w := x710) (by rw [ex710, show x719.toInt.toNat = x708.toInt.toNat by omega]) ?_
          refine m_callV (n := 1) (ci := 11) (st := []) C (c_X12_kind l G τ711 (x710) i712 ) (by decide) (by decide) rfl rfl rfl q5_186 q5_183 q5_184 q5_185 q1_7 (by decide +kernel) rfl (by decide) ⟨by show (250 + 8 * y3.toInt.toNat) + 0 ≤ 600000; omega, by show (5300 + 24 * y3.toInt.toNat) + 0 ≤ 7302250; omega⟩ rfl (Nat.le_of_ble_eq_true rfl) dL_law_896 ?_
          rintro _ τ721 ⟨x724, rfl, i722, f723, b725⟩
          have r728 : Rel τ721 := r718.call f723 (by decide) (by decide)
          show MW p l e _ s m _ below meth c _ 4 G (250 + 8 * y3.toInt.toNat) (5300 + 24 * y3.toInt.toNat) 899 [some (.ref b), some (.ref (G.1 0 0)), some (.ref (G.1 22 0)), some (.int y3)] [.int x724] τ721
          refine m_pop C dL_law_899 rfl ?_
          refine m_goto (tgt := 1028) C dL_law_900 (by decide) ?_
          obtain ⟨x729, ex729⟩ : ∃ y : Int32, y = y3 + 6 := ⟨_, rfl⟩
          have tx729 : x729.toInt = y3.toInt + 6 := by rw [ex729, ti_addv b8 kc_6 (by decide), kt_6]
          have b730 : IV x729 6 3072 := by rw [ex729]; exact iv_add b8 kc_6 (by decide)
          refine m_iinc (v := x729) (L1 := [some (.ref b), some (.ref (G.1 0 0)), some (.ref (G.1 22 0)), some (.int x729)]) C dL_law_1028 rfl (by rw [ex729]; rfl) (by decide) rfl rfl ?_
          refine m_goto (tgt := 18) C dL_law_1031 (by decide) ?_
          refine m_widen (c2 := 250 + 8 * x729.toInt.toNat) (s2 := 5300 + 24 * x729.toInt.toNat) (by omega) (by omega) ?_
          exact ih18 τ721 x729 i722 r728 (iv_wk b730 (by decide)) (by have q := hm18; omega)
        by_cases s731 : x11.toInt = 25
        · refine m_tableIn (tgt := 903) (off := 870) C dL_law_33 (by omega) (by omega) (by rw [s731]; rfl) (by decide) ?_
          have b732 : IV x11 25 25 := ⟨by omega, by omega⟩
          refine m_aload_n C dL_law_903 rfl rfl ?_
          refine m_aload_n C dL_law_904 rfl rfl ?_
          refine m_iload_n C dL_law_905 rfl rfl ?_
          refine m_iconst (v := 1) C dL_law_906 (by decide) ?_
          refine m_iadd C dL_law_907 ?_
          refine m_topi (fun x733 ex733 => ?_)
          have tx733 : x733.toInt = y3.toInt + 1 := by rw [ex733, ti_addv b8 kc_1 (by decide), kt_1]
          have b734 : IV x733 1 3067 := by rw [ex733]; exact iv_add b8 kc_1 (by decide)
          refine m_sld C hX hbl hbA ⟨by omega, by omega⟩ dL_law_908 ?_
          refine m_topi (fun x735 ex735 => ?_)
          refine m_aload_n C dL_law_909 rfl rfl ?_
          refine m_iload_n C dL_law_910 rfl rfl ?_
          refine m_iconst (v := 2) C dL_law_911 (by decide) ?_
          refine m_iadd C dL_law_912 ?_
          refine m_topi (fun x736 ex736 => ?_)
          have tx736 : x736.toInt = y3.toInt + 2 := by rw [ex736, ti_addv b8 kc_2 (by decide), kt_2]
          have b737 : IV x736 2 3068 := by rw [ex736]; exact iv_add b8 kc_2 (by decide)
          refine m_sld C hX hbl hbA ⟨by omega, by omega⟩ dL_law_913 ?_
          refine m_topi (fun x738 ex738 => ?_)
          refine m_callV (n := 2) (ci := 10) (st := []) C (c_X11_as l G τ (x735) (x738) iτ ) (by decide) (by decide) rfl rfl rfl q4_30 q4_27 q4_28 q4_29 q1_1 (by decide +kernel) rfl (by decide) ⟨by show (250 + 8 * y3.toInt.toNat) + 0 ≤ 600000; omega, by show (5300 + 24 * y3.toInt.toNat) + 0 ≤ 7302250; omega⟩ rfl (Nat.le_of_ble_eq_true rfl) dL_law_914 ?_
          rintro _ τ739 ⟨x742, rfl, i740, f741, b743⟩
          have r746 : Rel τ739 := rτ.call f741 (by decide) (by decide)
          show MW p l e _ s m _ below meth c _ 4 G (250 + 8 * y3.toInt.toNat) (5300 + 24 * y3.toInt.toNat) 917 [some (.ref b), some (.ref (G.1 0 0)), some (.ref (G.1 22 0)), some (.int y3)] [.int x742] τ739
          refine m_pop C dL_law_917 rfl ?_
          refine m_aload_n C dL_law_918 rfl rfl ?_
          refine m_aload_n C dL_law_919 rfl rfl ?_
          refine m_iload_n C dL_law_920 rfl rfl ?_
          refine m_iconst (v := 1) C dL_law_921 (by decide) ?_
          refine m_iadd C dL_law_922 ?_
          refine m_topi (fun x747 ex747 => ?_)
          have tx747 : x747.toInt = y3.toInt + 1 := by rw [ex747, ti_addv b8 kc_1 (by decide), kt_1]
          have b748 : IV x747 1 3067 := by rw [ex747]; exact iv_add b8 kc_1 (by decide)
          refine m_sld C hX hbl hbA ⟨by omega, by omega⟩ dL_law_923 ?_
          refine m_eqs (w := x735) (by rw [ex735, show x747.toInt.toNat = x733.toInt.toNat by omega]) ?_
          refine m_aload_n C dL_law_924 rfl rfl ?_
          refine m_iload_n C dL_law_925 rfl rfl ?_
          refine m_iconst (v := 2) C dL_law_926 (by decide) ?_
          refine m_iadd C dL_law_927 ?_
          refine m_topi (fun x749 ex749 => ?_)
          have tx749 : x749.toInt = y3.toInt + 2 := by rw [ex749, ti_addv b8 kc_2 (by decide), kt_2]
          have b750 : IV x749 2 3068 := by rw [ex749]; exact iv_add b8 kc_2 (by decide)
          refine m_sld C hX hbl hbA ⟨by omega, by omega⟩ dL_law_928 ?_
          refine m_eqs (w := x738) (by rw [ex738, show x749.toInt.toNat = x736.toInt.toNat by omega]) ?_
          refine m_callV (n := 2) (ci := 11) (st := []) C (c_X12_as l G τ739 (x735) (x738) i740 ) (by decide) (by decide) rfl rfl rfl q5_190 q5_187 q5_188 q5_189 q1_7 (by decide +kernel) rfl (by decide) ⟨by show (250 + 8 * y3.toInt.toNat) + 0 ≤ 600000; omega, by show (5300 + 24 * y3.toInt.toNat) + 0 ≤ 7302250; omega⟩ rfl (Nat.le_of_ble_eq_true rfl) dL_law_929 ?_
          rintro _ τ751 ⟨x754, rfl, i752, f753, b755⟩
          have r758 : Rel τ751 := r746.call f753 (by decide) (by decide)
          show MW p l e _ s m _ below meth c _ 4 G (250 + 8 * y3.toInt.toNat) (5300 + 24 * y3.toInt.toNat) 932 [some (.ref b), some (.ref (G.1 0 0)), some (.ref (G.1 22 0)), some (.int y3)] [.int x754] τ751
          refine m_pop C dL_law_932 rfl ?_
          refine m_goto (tgt := 1028) C dL_law_933 (by decide) ?_
          obtain ⟨x759, ex759⟩ : ∃ y : Int32, y = y3 + 6 := ⟨_, rfl⟩
          have tx759 : x759.toInt = y3.toInt + 6 := by rw [ex759, ti_addv b8 kc_6 (by decide), kt_6]
          have b760 : IV x759 6 3072 := by rw [ex759]; exact iv_add b8 kc_6 (by decide)
          refine m_iinc (v := x759) (L1 := [some (.ref b), some (.ref (G.1 0 0)), some (.ref (G.1 22 0)), some (.int x759)]) C dL_law_1028 rfl (by rw [ex759]; rfl) (by decide) rfl rfl ?_
          refine m_goto (tgt := 18) C dL_law_1031 (by decide) ?_
          refine m_widen (c2 := 250 + 8 * x759.toInt.toNat) (s2 := 5300 + 24 * x759.toInt.toNat) (by omega) (by omega) ?_
          exact ih18 τ751 x759 i752 r758 (iv_wk b760 (by decide)) (by have q := hm18; omega)
        by_cases s761 : x11.toInt = 26
        · refine m_tableIn (tgt := 936) (off := 903) C dL_law_33 (by omega) (by omega) (by rw [s761]; rfl) (by decide) ?_
          have b762 : IV x11 26 26 := ⟨by omega, by omega⟩
          refine m_aload_n C dL_law_936 rfl rfl ?_
          refine m_aload_n C dL_law_937 rfl rfl ?_
          refine m_iload_n C dL_law_938 rfl rfl ?_
          refine m_iconst (v := 1) C dL_law_939 (by decide) ?_
          refine m_iadd C dL_law_940 ?_
          refine m_topi (fun x763 ex763 => ?_)
          have tx763 : x763.toInt = y3.toInt + 1 := by rw [ex763, ti_addv b8 kc_1 (by decide), kt_1]
          have b764 : IV x763 1 3067 := by rw [ex763]; exact iv_add b8 kc_1 (by decide)
          refine m_sld C hX hbl hbA ⟨by omega, by omega⟩ dL_law_941 ?_
          refine m_topi (fun x765 ex765 => ?_)
          refine m_aload_n C dL_law_942 rfl rfl ?_
          refine m_iload_n C dL_law_943 rfl rfl ?_
          refine m_iconst (v := 2) C dL_law_944 (by decide) ?_
          refine m_iadd C dL_law_945 ?_
          refine m_topi (fun x766 ex766 => ?_)
          have tx766 : x766.toInt = y3.toInt + 2 := by rw [ex766, ti_addv b8 kc_2 (by decide), kt_2]
          have b767 : IV x766 2 3068 := by rw [ex766]; exact iv_add b8 kc_2 (by decide)
          refine m_sld C hX hbl hbA ⟨by omega, by omega⟩ dL_law_946 ?_
          refine m_topi (fun x768 ex768 => ?_)
          refine m_callV (n := 2) (ci := 10) (st := []) C (c_X11_ask l G τ (x765) (x768) iτ ) (by decide) (by decide) rfl rfl rfl q4_42 q4_39 q4_40 q4_41 q1_1 (by decide +kernel) rfl (by decide) ⟨by show (250 + 8 * y3.toInt.toNat) + 0 ≤ 600000; omega, by show (5300 + 24 * y3.toInt.toNat) + 0 ≤ 7302250; omega⟩ rfl (Nat.le_of_ble_eq_true rfl) dL_law_947 ?_
          rintro _ τ769 ⟨x772, rfl, i770, f771, b773⟩
          have r776 : Rel τ769 := rτ.call f771 (by decide) (by decide)
          show MW p l e _ s m _ below meth c _ 4 G (250 + 8 * y3.toInt.toNat) (5300 + 24 * y3.toInt.toNat) 950 [some (.ref b), some (.ref (G.1 0 0)), some (.ref (G.1 22 0)), some (.int y3)] [.int x772] τ769
          refine m_pop C dL_law_950 rfl ?_
          refine m_aload_n C dL_law_951 rfl rfl ?_
          refine m_aload_n C dL_law_952 rfl rfl ?_
          refine m_iload_n C dL_law_953 rfl rfl ?_
          refine m_iconst (v := 1) C dL_law_954 (by decide) ?_
          refine m_iadd C dL_law_955 ?_
          refine m_topi (fun x777 ex777 => ?_)
          have tx777 : x777.toInt = y3.toInt + 1 := by rw [ex777, ti_addv b8 kc_1 (by decide), kt_1]
          have b778 : IV x777 1 3067 := by rw [ex777]; exact iv_add b8 kc_1 (by decide)
          refine m_sld C hX hbl hbA ⟨by omega, by omega⟩ dL_law_956 ?_
          refine m_eqs (w := x765) (by rw [ex765, show x777.toInt.toNat = x763.toInt.toNat by omega]) ?_
          refine m_aload_n C dL_law_957 rfl rfl ?_
          refine m_iload_n C dL_law_958 rfl rfl ?_
          refine m_iconst (v := 2) C dL_law_959 (by decide) ?_
          refine m_iadd C dL_law_960 ?_
          refine m_topi (fun x779 ex779 => ?_)
          have tx779 : x779.toInt = y3.toInt + 2 := by rw [ex779, ti_addv b8 kc_2 (by decide), kt_2]
          have b780 : IV x779 2 3068 := by rw [ex779]; exact iv_add b8 kc_2 (by decide)
          refine m_sld C hX hbl hbA ⟨by omega, by omega⟩ dL_law_961 ?_
          refine m_eqs (w := x768) (by rw [ex768, show x779.toInt.toNat = x766.toInt.toNat by omega]) ?_
          refine m_callV (n := 2) (ci := 11) (st := []) C (c_X12_ask l G τ769 (x765) (x768) i770 ) (by decide) (by decide) rfl rfl rfl q5_197 q5_194 q5_195 q5_196 q1_7 (by decide +kernel) rfl (by decide) ⟨by show (250 + 8 * y3.toInt.toNat) + 0 ≤ 600000; omega, by show (5300 + 24 * y3.toInt.toNat) + 0 ≤ 7302250; omega⟩ rfl (Nat.le_of_ble_eq_true rfl) dL_law_962 ?_
          rintro _ τ781 ⟨x784, rfl, i782, f783, b785⟩
          have r788 : Rel τ781 := r776.call f783 (by decide) (by decide)
          show MW p l e _ s m _ below meth c _ 4 G (250 + 8 * y3.toInt.toNat) (5300 + 24 * y3.toInt.toNat) 965 [some (.ref b), some (.ref (G.1 0 0)), some (.ref (G.1 22 0)), some (.int y3)] [.int x784] τ781
          refine m_pop C dL_law_965 rfl ?_
          refine m_goto (tgt := 1028) C dL_law_966 (by decide) ?_
          obtain ⟨x789, ex789⟩ : ∃ y : Int32, y = y3 + 6 := ⟨_, rfl⟩
          have tx789 : x789.toInt = y3.toInt + 6 := by rw [ex789, ti_addv b8 kc_6 (by decide), kt_6]
          have b790 : IV x789 6 3072 := by rw [ex789]; exact iv_add b8 kc_6 (by decide)
          refine m_iinc (v := x789) (L1 := [some (.ref b), some (.ref (G.1 0 0)), some (.ref (G.1 22 0)), some (.int x789)]) C dL_law_1028 rfl (by rw [ex789]; rfl) (by decide) rfl rfl ?_
          refine m_goto (tgt := 18) C dL_law_1031 (by decide) ?_
          refine m_widen (c2 := 250 + 8 * x789.toInt.toNat) (s2 := 5300 + 24 * x789.toInt.toNat) (by omega) (by omega) ?_
          exact ih18 τ781 x789 i782 r788 (iv_wk b790 (by decide)) (by have q := hm18; omega)
        by_cases s791 : x11.toInt = 27
        · refine m_tableIn (tgt := 969) (off := 936) C dL_law_33 (by omega) (by omega) (by rw [s791]; rfl) (by decide) ?_
          have b792 : IV x11 27 27 := ⟨by omega, by omega⟩
          refine m_aload_n C dL_law_969 rfl rfl ?_
          refine m_aload_n C dL_law_970 rfl rfl ?_
          refine m_iload_n C dL_law_971 rfl rfl ?_
          refine m_iconst (v := 1) C dL_law_972 (by decide) ?_
          refine m_iadd C dL_law_973 ?_
          refine m_topi (fun x793 ex793 => ?_)
          have tx793 : x793.toInt = y3.toInt + 1 := by rw [ex793, ti_addv b8 kc_1 (by decide), kt_1]
          have b794 : IV x793 1 3067 := by rw [ex793]; exact iv_add b8 kc_1 (by decide)
          refine m_sld C hX hbl hbA ⟨by omega, by omega⟩ dL_law_974 ?_
          refine m_topi (fun x795 ex795 => ?_)
          refine m_callV (n := 1) (ci := 10) (st := []) C (c_X11_trace l G τ (x795) iτ ) (by decide) (by decide) rfl rfl rfl q4_97 q4_94 q4_95 q4_96 q1_1 (by decide +kernel) rfl (by decide) ⟨by show (250 + 8 * y3.toInt.toNat) + 0 ≤ 600000; omega, by show (5300 + 24 * y3.toInt.toNat) + 0 ≤ 7302250; omega⟩ rfl (Nat.le_of_ble_eq_true rfl) dL_law_975 ?_
          rintro _ τ796 ⟨x799, rfl, i797, f798, b800⟩
          have r803 : Rel τ796 := rτ.call f798 (by decide) (by decide)
          show MW p l e _ s m _ below meth c _ 4 G (250 + 8 * y3.toInt.toNat) (5300 + 24 * y3.toInt.toNat) 978 [some (.ref b), some (.ref (G.1 0 0)), some (.ref (G.1 22 0)), some (.int y3)] [.int x799] τ796
          refine m_pop C dL_law_978 rfl ?_
          refine m_aload_n C dL_law_979 rfl rfl ?_
          refine m_aload_n C dL_law_980 rfl rfl ?_
          refine m_iload_n C dL_law_981 rfl rfl ?_
          refine m_iconst (v := 1) C dL_law_982 (by decide) ?_
          refine m_iadd C dL_law_983 ?_
          refine m_topi (fun x804 ex804 => ?_)
          have tx804 : x804.toInt = y3.toInt + 1 := by rw [ex804, ti_addv b8 kc_1 (by decide), kt_1]
          have b805 : IV x804 1 3067 := by rw [ex804]; exact iv_add b8 kc_1 (by decide)
          refine m_sld C hX hbl hbA ⟨by omega, by omega⟩ dL_law_984 ?_
          refine m_eqs (w := x795) (by rw [ex795, show x804.toInt.toNat = x793.toInt.toNat by omega]) ?_
          refine m_callV (n := 1) (ci := 11) (st := []) C (c_X12_trace l G τ796 (x795) i797 ) (by decide) (by decide) rfl rfl rfl q5_213 q5_210 q5_211 q5_212 q1_7 (by decide +kernel) rfl (by decide) ⟨by show (250 + 8 * y3.toInt.toNat) + 0 ≤ 600000; omega, by show (5300 + 24 * y3.toInt.toNat) + 0 ≤ 7302250; omega⟩ rfl (Nat.le_of_ble_eq_true rfl) dL_law_985 ?_
          rintro _ τ806 ⟨x809, rfl, i807, f808, b810⟩
          have r813 : Rel τ806 := r803.call f808 (by decide) (by decide)
          show MW p l e _ s m _ below meth c _ 4 G (250 + 8 * y3.toInt.toNat) (5300 + 24 * y3.toInt.toNat) 988 [some (.ref b), some (.ref (G.1 0 0)), some (.ref (G.1 22 0)), some (.int y3)] [.int x809] τ806
          refine m_pop C dL_law_988 rfl ?_
          refine m_goto (tgt := 1028) C dL_law_989 (by decide) ?_
          obtain ⟨x814, ex814⟩ : ∃ y : Int32, y = y3 + 6 := ⟨_, rfl⟩
          have tx814 : x814.toInt = y3.toInt + 6 := by rw [ex814, ti_addv b8 kc_6 (by decide), kt_6]
          have b815 : IV x814 6 3072 := by rw [ex814]; exact iv_add b8 kc_6 (by decide)
          refine m_iinc (v := x814) (L1 := [some (.ref b), some (.ref (G.1 0 0)), some (.ref (G.1 22 0)), some (.int x814)]) C dL_law_1028 rfl (by rw [ex814]; rfl) (by decide) rfl rfl ?_
          refine m_goto (tgt := 18) C dL_law_1031 (by decide) ?_
          refine m_widen (c2 := 250 + 8 * x814.toInt.toNat) (s2 := 5300 + 24 * x814.toInt.toNat) (by omega) (by omega) ?_
          exact ih18 τ806 x814 i807 r813 (iv_wk b815 (by decide)) (by have q := hm18; omega)
        by_cases s816 : x11.toInt = 28
        · refine m_tableIn (tgt := 992) (off := 959) C dL_law_33 (by omega) (by omega) (by rw [s816]; rfl) (by decide) ?_
          have b817 : IV x11 28 28 := ⟨by omega, by omega⟩
          refine m_aload_n C dL_law_992 rfl rfl ?_
          refine m_aload_n C dL_law_993 rfl rfl ?_
          refine m_iload_n C dL_law_994 rfl rfl ?_
          refine m_iconst (v := 1) C dL_law_995 (by decide) ?_
          refine m_iadd C dL_law_996 ?_
          refine m_topi (fun x818 ex818 => ?_)
          have tx818 : x818.toInt = y3.toInt + 1 := by rw [ex818, ti_addv b8 kc_1 (by decide), kt_1]
          have b819 : IV x818 1 3067 := by rw [ex818]; exact iv_add b8 kc_1 (by decide)
          refine m_sld C hX hbl hbA ⟨by omega, by omega⟩ dL_law_997 ?_
          refine m_topi (fun x820 ex820 => ?_)
          refine m_callV (n := 1) (ci := 10) (st := []) C (c_X11_count l G τ (x820) iτ ) (by decide) (by decide) rfl rfl rfl q4_101 q4_98 q4_99 q4_100 q1_1 (by decide +kernel) rfl (by decide) ⟨by show (250 + 8 * y3.toInt.toNat) + 0 ≤ 600000; omega, by show (5300 + 24 * y3.toInt.toNat) + 0 ≤ 7302250; omega⟩ rfl (Nat.le_of_ble_eq_true rfl) dL_law_998 ?_
          rintro _ τ821 ⟨x824, rfl, i822, f823, b825⟩
          have r828 : Rel τ821 := rτ.call f823 (by decide) (by decide)
          show MW p l e _ s m _ below meth c _ 4 G (250 + 8 * y3.toInt.toNat) (5300 + 24 * y3.toInt.toNat) 1001 [some (.ref b), some (.ref (G.1 0 0)), some (.ref (G.1 22 0)), some (.int y3)] [.int x824] τ821
          refine m_pop C dL_law_1001 rfl ?_
          refine m_aload_n C dL_law_1002 rfl rfl ?_
          refine m_aload_n C dL_law_1003 rfl rfl ?_
          refine m_iload_n C dL_law_1004 rfl rfl ?_
          refine m_iconst (v := 1) C dL_law_1005 (by decide) ?_
          refine m_iadd C dL_law_1006 ?_
          refine m_topi (fun x829 ex829 => ?_)
          have tx829 : x829.toInt = y3.toInt + 1 := by rw [ex829, ti_addv b8 kc_1 (by decide), kt_1]
          have b830 : IV x829 1 3067 := by rw [ex829]; exact iv_add b8 kc_1 (by decide)
          refine m_sld C hX hbl hbA ⟨by omega, by omega⟩ dL_law_1007 ?_
          refine m_eqs (w := x820) (by rw [ex820, show x829.toInt.toNat = x818.toInt.toNat by omega]) ?_
          refine m_callV (n := 1) (ci := 11) (st := []) C (c_X12_count l G τ821 (x820) i822 ) (by decide) (by decide) rfl rfl rfl q5_217 q5_214 q5_215 q5_216 q1_7 (by decide +kernel) rfl (by decide) ⟨by show (250 + 8 * y3.toInt.toNat) + 0 ≤ 600000; omega, by show (5300 + 24 * y3.toInt.toNat) + 0 ≤ 7302250; omega⟩ rfl (Nat.le_of_ble_eq_true rfl) dL_law_1008 ?_
          rintro _ τ831 ⟨x834, rfl, i832, f833, b835⟩
          have r838 : Rel τ831 := r828.call f833 (by decide) (by decide)
          show MW p l e _ s m _ below meth c _ 4 G (250 + 8 * y3.toInt.toNat) (5300 + 24 * y3.toInt.toNat) 1011 [some (.ref b), some (.ref (G.1 0 0)), some (.ref (G.1 22 0)), some (.int y3)] [.int x834] τ831
          refine m_pop C dL_law_1011 rfl ?_
          refine m_goto (tgt := 1028) C dL_law_1012 (by decide) ?_
          obtain ⟨x839, ex839⟩ : ∃ y : Int32, y = y3 + 6 := ⟨_, rfl⟩
          have tx839 : x839.toInt = y3.toInt + 6 := by rw [ex839, ti_addv b8 kc_6 (by decide), kt_6]
          have b840 : IV x839 6 3072 := by rw [ex839]; exact iv_add b8 kc_6 (by decide)
          refine m_iinc (v := x839) (L1 := [some (.ref b), some (.ref (G.1 0 0)), some (.ref (G.1 22 0)), some (.int x839)]) C dL_law_1028 rfl (by rw [ex839]; rfl) (by decide) rfl rfl ?_
          refine m_goto (tgt := 18) C dL_law_1031 (by decide) ?_
          refine m_widen (c2 := 250 + 8 * x839.toInt.toNat) (s2 := 5300 + 24 * x839.toInt.toNat) (by omega) (by omega) ?_
          exact ih18 τ831 x839 i832 r838 (iv_wk b840 (by decide)) (by have q := hm18; omega)
        by_cases s841 : x11.toInt = 29
        · refine m_tableIn (tgt := 1015) (off := 982) C dL_law_33 (by omega) (by omega) (by rw [s841]; rfl) (by decide) ?_
          have b842 : IV x11 29 29 := ⟨by omega, by omega⟩
          refine m_aload_n C dL_law_1015 rfl rfl ?_
          refine m_callV (n := 0) (ci := 10) (st := []) C (c_X11_status l G τ  iτ ) (by decide) (by decide) rfl rfl rfl q4_109 q4_106 q4_107 q4_108 q1_1 (by decide +kernel) rfl (by decide) ⟨by show (250 + 8 * y3.toInt.toNat) + 0 ≤ 600000; omega, by show (5300 + 24 * y3.toInt.toNat) + 0 ≤ 7302250; omega⟩ rfl (Nat.le_of_ble_eq_true rfl) dL_law_1016 ?_
          rintro _ τ843 ⟨x846, rfl, i844, f845, b847⟩
          have r850 : Rel τ843 := rτ.call f845 (by decide) (by decide)
          show MW p l e _ s m _ below meth c _ 4 G (250 + 8 * y3.toInt.toNat) (5300 + 24 * y3.toInt.toNat) 1019 [some (.ref b), some (.ref (G.1 0 0)), some (.ref (G.1 22 0)), some (.int y3)] [.int x846] τ843
          refine m_pop C dL_law_1019 rfl ?_
          refine m_aload_n C dL_law_1020 rfl rfl ?_
          refine m_callV (n := 0) (ci := 11) (st := []) C (c_X12_status l G τ843  i844 ) (by decide) (by decide) rfl rfl rfl q5_221 q5_218 q5_219 q5_220 q1_7 (by decide +kernel) rfl (by decide) ⟨by show (250 + 8 * y3.toInt.toNat) + 0 ≤ 600000; omega, by show (5300 + 24 * y3.toInt.toNat) + 0 ≤ 7302250; omega⟩ rfl (Nat.le_of_ble_eq_true rfl) dL_law_1021 ?_
          rintro _ τ851 ⟨x854, rfl, i852, f853, b855⟩
          have r858 : Rel τ851 := r850.call f853 (by decide) (by decide)
          show MW p l e _ s m _ below meth c _ 4 G (250 + 8 * y3.toInt.toNat) (5300 + 24 * y3.toInt.toNat) 1024 [some (.ref b), some (.ref (G.1 0 0)), some (.ref (G.1 22 0)), some (.int y3)] [.int x854] τ851
          refine m_pop C dL_law_1024 rfl ?_
          refine m_goto (tgt := 1028) C dL_law_1025 (by decide) ?_
          obtain ⟨x859, ex859⟩ : ∃ y : Int32, y = y3 + 6 := ⟨_, rfl⟩
          have tx859 : x859.toInt = y3.toInt + 6 := by rw [ex859, ti_addv b8 kc_6 (by decide), kt_6]
          have b860 : IV x859 6 3072 := by rw [ex859]; exact iv_add b8 kc_6 (by decide)
          refine m_iinc (v := x859) (L1 := [some (.ref b), some (.ref (G.1 0 0)), some (.ref (G.1 22 0)), some (.int x859)]) C dL_law_1028 rfl (by rw [ex859]; rfl) (by decide) rfl rfl ?_
          refine m_goto (tgt := 18) C dL_law_1031 (by decide) ?_
          refine m_widen (c2 := 250 + 8 * x859.toInt.toNat) (s2 := 5300 + 24 * x859.toInt.toNat) (by omega) (by omega) ?_
          exact ih18 τ851 x859 i852 r858 (iv_wk b860 (by decide)) (by have q := hm18; omega)
        exact absurd s13 (by omega)
end LAW
